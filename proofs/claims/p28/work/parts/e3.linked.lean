/-! the world at the law's entry: what is linked, and all of it together -/
theorem asg_self (vm : Vm) (c : ClassId) : vm.assignable c c = true := by
  show vm.assignableAux _ c c = true
  unfold Vm.assignableAux
  simp
theorem castSelf {s : State} {A : Array Value} {C T : String} (h : (Cond.castable C T).before A s = true) : va_Nw (.castable C C) s := by
  obtain ⟨c0, t0, f1, f2, f3⟩ := Cond.castable_spec h
  show (Cond.castable C C).before #[] s = true
  simp [Cond.before, Cond.holds, Cond.value, f1, asg_self]
theorem vk_Rex {own tx : String} {k : Nat} {A : Array Value} {U : State} (h : (Cond.stringRef own k tx).before A U = true) : ∃ a : Nat, vk_R own k tx a U := by
  cases hc : U.vm.findClass own with
  | none => simp [Cond.before, Cond.holds, Cond.value, hc] at h
  | some cur =>
    obtain ⟨k9, cf, i, a, -, -, -, -, -, he⟩ := Cond.stringRef_spec hc h
    exact ⟨a, vk_R.of h he⟩
theorem va_Ec_cg {SC E d : String} {nm : List String} {F : List (String × String × String × List Int32)} {ad ad' : Nat → Nat} {A : Nat → Prop} {U : State} {H : Heap} (e : ∀ i, i < nm.length → ad' i = ad i) (h : va_Ec SC E d nm F ad A U H) : va_Ec SC E d nm F ad' A U H :=
  ⟨fun i hi => by rw [e i hi]; exact h.1 i hi, fun i j hi hj q => h.2 i j hi hj (by rw [← e i hi, ← e j hj]; exact q)⟩
theorem va_Ef_cg {N : Nat} {o n d : String} {v v' : Nat → Value} {ad ad' : Nat → Nat} {A : Nat → Prop} {U : State} {H : Heap} (e : ∀ i, i < N → ad' i = ad i) (e' : ∀ i, i < N → v' i = v i) (h : va_Ef N o n d v ad A U H) : va_Ef N o n d v' ad' A U H :=
  fun i hi => by rw [e i hi, e' i hi]; exact h i hi
theorem va_T_cg {ty : FieldType} {t N : Nat} {f f' : Nat → Value} {A : Nat → Prop} {U : State} {H : Heap} (e : ∀ j, j < N → f' j = f j) (h : va_T ty t N f A U H) : va_T ty t N f' A U H := by
  obtain ⟨cell, h1, h2, h3, h4, h5, h6, h7⟩ := h
  exact ⟨cell, h1, h2, h3, h4, h5, fun j hj => by rw [e j hj]; exact h6 j hj, h7⟩
theorem vk_S_cg {N : Nat} {len : List Nat} {byt : List (List Int32)} {adK adV adK' adV' : Nat → Nat} {A : Nat → Prop} {U : State} {H : Heap} (e : ∀ i, i < N → adK' i = adK i) (e' : ∀ i, i < N → adV' i = adV i) (h : vk_S N len byt adK adV A U H) : vk_S N len byt adK' adV' A U H :=
  ⟨fun i hi => by rw [e i hi, e' i hi]; exact h.1 i hi, fun i j hi hj q => h.2 i j hi hj (by rw [← e i hi, ← e j hj]; exact q)⟩
/-- the constants' addresses, by their places -/
def kap (adP adG adK adV : Nat → Nat) (tP tG tD tT tO mi n sb sL : Nat) (sx : Nat → Int32) (i : Nat) : Nat := [adP 0, adP 1, adP 2, adP 3, adG 0, adG 1, adG 2, tP, tG, tD, adK 0, adK 1, adK 2, adK 3, adK 4, adK 5, adK 6, 0, 0, 0, adV 0, adV 1, adV 2, adV 3, adV 4, adV 5, adV 6, 0, 0, 0, tT, tO, mi, n, sb, sL].getD i (sx (i - 40)).toBitVec.toNat
section
variable {adP adG adK adV : Nat → Nat} {tP tG tD tT tO mi n sb sL : Nat} {sx : Nat → Int32}
theorem kapP (i : Nat) (hi : i < 4) : kap adP adG adK adV tP tG tD tT tO mi n sb sL sx i = adP i := by
  rcases (by omega : i = 0 ∨ i = 1 ∨ i = 2 ∨ i = 3) with rfl | rfl | rfl | rfl <;> rfl
theorem kapG (i : Nat) (hi : i < 3) : kap adP adG adK adV tP tG tD tT tO mi n sb sL sx (4 + i) = adG i := by
  rcases (by omega : i = 0 ∨ i = 1 ∨ i = 2) with rfl | rfl | rfl <;> rfl
theorem kapK (i : Nat) (hi : i < 7) : kap adP adG adK adV tP tG tD tT tO mi n sb sL sx (10 + i) = adK i := by
  rcases (by omega : i = 0 ∨ i = 1 ∨ i = 2 ∨ i = 3 ∨ i = 4 ∨ i = 5 ∨ i = 6) with rfl | rfl | rfl | rfl | rfl | rfl | rfl <;> rfl
theorem kapV (i : Nat) (hi : i < 7) : kap adP adG adK adV tP tG tD tT tO mi n sb sL sx (20 + i) = adV i := by
  rcases (by omega : i = 0 ∨ i = 1 ∨ i = 2 ∨ i = 3 ∨ i = 4 ∨ i = 5 ∨ i = 6) with rfl | rfl | rfl | rfl | rfl | rfl | rfl <;> rfl
end
theorem kapS {adP adG adK adV : Nat → Nat} {tP tG tD tT tO mi n sb sL j : Nat} {sx : Nat → Int32} : kap adP adG adK adV tP tG tD tT tO mi n sb sL sx (40 + j) = (sx j).toBitVec.toNat := by
  unfold kap
  rw [List.getD_eq_getElem?_getD, List.getElem?_eq_none (Nat.le_trans (Nat.le_of_ble_eq_true rfl) (Nat.le_add_right 40 j)), Nat.add_sub_cancel_left]
  rfl
theorem plM : xMsgs.map (fun q => Cond.stringRef "Stuccohand" q.1 q.2) = [325, 328, 338, 449, 450, 186, 455, 464, 235, 472, 475, 476, 497, 596, 606, 624, 625, 243, 257, 655, 869, 870, 892, 897, 930, 931, 943, 944, 955, 1006, 1011, 299, 1041, 268, 994, 995, 968, 969].filterMap (fun i => tables_1[i]?) := by decide +kernel
theorem plM_in {q : Nat × String} (h : q ∈ xMsgs) : Cond.stringRef "Stuccohand" q.1 q.2 ∈ tables_1 := by
  have h1 : Cond.stringRef "Stuccohand" q.1 q.2 ∈ xMsgs.map (fun q => Cond.stringRef "Stuccohand" q.1 q.2) := List.mem_map.mpr ⟨q, h, rfl⟩
  rw [plM] at h1
  obtain ⟨i, -, hi⟩ := List.mem_filterMap.mp h1
  exact List.mem_of_getElem? hi
section
variable {p : Program} {s : State} {m : MethodId} {meth : Method} {c : Code} {b L : Nat} {xs : Nat → Int32}
theorem wCasts (C0 : lw_At p s m meth c b L xs) : ∀ q ∈ xCasts, va_Nw (.castable q.1 q.2) s := by
  intro q hq
  have h1 : Cond.castable q.1 q.2 ∈ lw_tbl ∨ (q.1 = q.2 ∧ Cond.castable q.1 "java/lang/Object" ∈ lw_tbl) := (show ∀ q ∈ xCasts, Cond.castable q.1 q.2 ∈ lw_tbl ∨ (q.1 = q.2 ∧ Cond.castable q.1 "java/lang/Object" ∈ lw_tbl) from by decide +kernel) q hq
  rcases h1 with h | ⟨e, h⟩
  · exact va_Nw.of rfl (wlw C0 _ h)
  · rw [← e]
    exact castSelf (wlw C0 _ h)
theorem wNots (C0 : lw_At p s m meth c b L xs) : ∀ q ∈ xNots, va_Nc q.1 q.2 s := fun q hq => va_Nc.of (wna C0 ((show ∀ q ∈ xNots, Cond.not (.castable q.1 q.2) ∈ nCs from by decide +kernel) q hq))
theorem wMsgs (C0 : lw_At p s m meth c b L xs) : ∀ q ∈ xMsgs, ∃ sa, vk_R "Stuccohand" q.1 q.2 sa s := fun q hq => vk_Rex (wtb C0 (plM_in hq))
theorem wDecl (C0 : lw_At p s m meth c b L xs) : ∀ q ∈ xDecls, va_Nw (.declares q) s := fun q hq => va_Nw.of rfl (wlw C0 _ ((show ∀ q ∈ xDecls, Cond.declares q ∈ lw_tbl from by decide +kernel) q hq))
theorem wNest (C0 : lw_At p s m meth c b L xs) : va_Nw (.methodLinkNest RX2 52 yX10_hasCell RX10) s := va_Nw.of rfl (wlw C0 _ (by decide +kernel))
theorem wAO (C0 : lw_At p s m meth c b L xs) : va_AO "java/lang/Object" s := va_AO.of (wtb C0 (w := .arrayOver (.object "java/lang/Object")) (List.mem_of_getElem? (i := 423) (by decide +kernel)))
theorem wMi (C0 : lw_At p s m meth c b L xs) : ∃ mi : Nat, va_Mi "[Ljava/lang/Object;" mi s := va_Mi.of (wna C0 (w := .isRef (.mirror "[Ljava/lang/Object;")) (by decide +kernel))
theorem wCt (C0 : lw_At p s m meth c b L xs) {adK : Nat → Nat} (hK : ∀ i, i < 7 → (tTx i).eval #[Value.ref b] s none [] s = some (.ref (adK i))) : vk_R "Stuccohand$Coat" 67 "mm" (adK 4) s ∧ vk_R "Stuccohand$Coat" 69 " dry" (adK 5) s ∧ vk_R "Stuccohand$Coat" 71 " cracked" (adK 6) s :=
  ⟨vk_R.of (wtb C0 (List.mem_of_getElem? (i := 840) (by decide +kernel))) (hK 4 (by decide)), vk_R.of (wtb C0 (List.mem_of_getElem? (i := 841) (by decide +kernel))) (hK 5 (by decide)), vk_R.of (wtb C0 (List.mem_of_getElem? (i := 842) (by decide +kernel))) (hK 6 (by decide))⟩
theorem wWd (C0 : lw_At p s m meth c b L xs) {ad adK : Nat → Nat} (h : va_Ec "Stuccohand$Plaster" "Stuccohand$Plaster" "LStuccohand$Plaster;" xNP xFP ad (xA s.heap.size) s s.heap) (hK : ∀ i, i < 7 → (tTx i).eval #[Value.ref b] s none [] s = some (.ref (adK i))) : va_Ef 4 "Stuccohand$Plaster" "word" "Ljava/lang/String;" (fun i => .ref (adK i)) ad (xA s.heap.size) s s.heap :=
  va_Efof (args := #[Value.ref b]) (E := "Stuccohand$Plaster") (d0 := "LStuccohand$Plaster;") (nm := xNP) (tm := tTx) (fun i hi => wPl2 C0 h i hi) (fun i hi => wna C0 ((show ∀ i, i < 4 → Cond.eq (.field (tPl i) "Stuccohand$Plaster" "word" "Ljava/lang/String;") (tTx i) ∈ nCs from by decide +kernel) i hi)) (fun i hi => hK i (by omega)) hA0
theorem wScr (hL : L ≤ 260) (C0 : lw_At p s m meth c b L xs) : va_T .int b L (fun j => .int (Int32.ofNat (xs j).toBitVec.toNat)) (xA s.heap.size) s s.heap := by
  obtain ⟨scr, h1, h2, h3, h4, h5⟩ := C0.2.2.2.2.2.2.1
  have hb := C0.2.2.2.2.2.2.2.1
  refine ⟨scr, h1, h2, h3, Nat.le_of_eq h4.symm, by rw [h4], fun j hj => ?_, hA0 b hb⟩
  rw [h5 j hj]
  congr 2
  refine Int32.toBitVec_inj.mp ?_
  refine BitVec.eq_of_toNat_eq ?_
  show (xs j).toBitVec.toNat = (BitVec.ofNat 32 (xs j).toBitVec.toNat).toNat
  rw [BitVec.toNat_ofNat, Nat.mod_eq_of_lt (xs j).toBitVec.isLt]
theorem wAll (hL : L ≤ 260) (C0 : lw_At p s m meth c b L xs) : ∃ κ : Nat → Nat, (xGh κ (xA s.heap.size) s s.heap ∧ xGw κ s) ∧ (KI κ ∧ KS κ) ∧ κ 34 = b ∧ κ 35 = L := by
  obtain ⟨adP, hP⟩ := wPl C0
  obtain ⟨adG, hG, hGi⟩ := wGr C0
  obtain ⟨tP, hP1, hP2⟩ := wPLA C0 hP
  obtain ⟨tG, hG1, hG2⟩ := wGRA C0 (fun i hi => (hG i hi).1)
  obtain ⟨tD, hD1, hD2⟩ := wDEF C0
  obtain ⟨adK, adV, hS, hK, hV⟩ := wTx C0
  obtain ⟨tT, hT1, hT2⟩ := wTens C0
  obtain ⟨tO, hO1, hO2⟩ := wOnes C0
  obtain ⟨n, hn⟩ := wSI C0
  obtain ⟨mi, hmi⟩ := wMi C0
  have eP := kapP (adP := adP) (adG := adG) (adK := adK) (adV := adV) (tP := tP) (tG := tG) (tD := tD) (tT := tT) (tO := tO) (mi := mi) (n := n) (sb := b) (sL := L) (sx := xs)
  have eG := kapG (adP := adP) (adG := adG) (adK := adK) (adV := adV) (tP := tP) (tG := tG) (tD := tD) (tT := tT) (tO := tO) (mi := mi) (n := n) (sb := b) (sL := L) (sx := xs)
  have eK := kapK (adP := adP) (adG := adG) (adK := adK) (adV := adV) (tP := tP) (tG := tG) (tD := tD) (tT := tT) (tO := tO) (mi := mi) (n := n) (sb := b) (sL := L) (sx := xs)
  have eV := kapV (adP := adP) (adG := adG) (adK := adK) (adV := adV) (tP := tP) (tG := tG) (tD := tD) (tT := tT) (tO := tO) (mi := mi) (n := n) (sb := b) (sL := L) (sx := xs)
  refine ⟨kap adP adG adK adV tP tG tD tT tO mi n b L xs, ⟨⟨?_, ?_, ⟨?_, ?_, ?_⟩, hP1, ?_, hG1, ?_, hD1, hD2, ?_, hT1, hT2, hO1, hO2, wCS C0, hn, wUS C0, wSS C0⟩, wCasts C0, wNots C0, wMsgs C0, wCt C0 hK, hmi, wAO C0, wNest C0, wDecl C0⟩, ⟨⟨?_, ?_⟩, ?_, ?_⟩, rfl, rfl⟩
  · exact va_Ec_cg (fun i hi => eP i hi) hP
  · exact va_Ef_cg (fun i hi => eP i hi) (fun i hi => by rw [eK i (by omega)]) (wWd C0 hP hK)
  · exact fun i hi => ⟨trivial, trivial, fun q hq => by rw [eG i hi]; exact (hG i hi).2 q hq⟩
  · exact fun i j hi hj q => hGi i j hi hj (by rw [← eG i hi, ← eG j hj]; exact q)
  · exact va_T_cg (fun j hj => congrArg (fun z => Value.int (Int32.ofNat z)) kapS) (wScr hL C0)
  · exact va_T_cg (fun j hj => by rw [eP j hj]) hP2
  · exact va_T_cg (fun j hj => by rw [eG j hj]) hG2
  · exact vk_S_cg (fun i hi => eK i hi) (fun i hi => eV i hi) hS
  · exact fun i j hi hj q => hP.2 i j hi hj (by rw [← eP i hi, ← eP j hj]; exact q)
  · exact fun i j hi hj q => hGi i j hi hj (by rw [← eG i hi, ← eG j hj]; exact q)
  · exact fun i j hi hj q => hS.2 i j hi hj (by rw [← eK i hi, ← eK j hj]; exact q)
  · exact fun i j hi hj q => hV i j hi hj (by rw [← eV i hi, ← eV j hj]; exact q)
end
