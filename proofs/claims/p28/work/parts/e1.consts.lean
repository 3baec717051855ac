/-! the world at the law's entry: the constants -/
abbrev nCs : List Cond := flatC (Jvm.Cond.and given_1 narrow_1)
abbrev tPl (i : Nat) : Term := .static "Stuccohand$Plaster" (xNP.getD i "") "LStuccohand$Plaster;"
abbrev tGr (i : Nat) : Term := .static "Stuccohand$Ground" (xNG.getD i "") "LStuccohand$Ground;"
theorem Zev {C n d : String} {v : Value} {A : Nat → Prop} {s : State} {args : Array Value} (h : va_Z C n d v A s s.heap) : (Term.static C n d).eval args s none [] s = some v := by
  obtain ⟨cf, kf, fi, f, a, cell, h1, h2, h3, h4, h5, h6, h7, h8⟩ := h
  simp [Term.eval, State.fieldNamed?, h1, h2, h3, h4, h5, h6, h7]
section
variable {p : Program} {s : State} {m : MethodId} {meth : Method} {c : Code} {b L : Nat} {xs : Nat → Int32}
theorem hA0 {s : State} : ∀ a : Nat, a < s.heap.size → ¬ xA s.heap.size a := fun _ h q => absurd h (Nat.not_lt.mpr q)
theorem wPl (C0 : lw_At p s m meth c b L xs) : ∃ ad : Nat → Nat, va_Ec "Stuccohand$Plaster" "Stuccohand$Plaster" "LStuccohand$Plaster;" xNP xFP ad (xA s.heap.size) s s.heap :=
  va_Ecof (args := #[Value.ref b]) (fun i hi => wlw C0 _ ((show ∀ i, i < xNP.length → Cond.laysStatic "Stuccohand$Plaster" (xNP.getD i "") "LStuccohand$Plaster;" ∈ lw_tbl from by decide +kernel) i hi)) (wlw C0 _ (by decide +kernel))
    (fun i hi => wna C0 ((show ∀ i, i < xNP.length → Cond.exactly (tPl i) "Stuccohand$Plaster" ∈ nCs from by decide +kernel) i hi))
    (fun q hq i hi => wna C0 ((show ∀ q ∈ xFP, ∀ i, i < xNP.length → Cond.eq (.field (tPl i) q.1 q.2.1 q.2.2.1) (.int (q.2.2.2.getD i 0)) ∈ nCs from by decide +kernel) q hq i hi))
    (fun i j hi hj hne => ((show ∀ i, i < xNP.length → ∀ j, j < xNP.length → i ≠ j → (Cond.not (.eq (tPl i) (tPl j)) ∈ nCs ∨ Cond.not (.eq (tPl j) (tPl i)) ∈ nCs) from by decide +kernel) i hi j hj hne).imp (fun q => wna C0 q) (fun q => wna C0 q)) hA0
theorem tdiff {t u : Term} {x y : Nat} {s : State} {args : Array Value} (h : (Cond.not (.eq t u)).before args s = true ∨ (Cond.not (.eq u t)).before args s = true) (ht : t.eval args s none [] s = some (.ref x)) (hu : u.eval args s none [] s = some (.ref y)) : x ≠ y :=
  h.elim (fun q => va_neR q ht hu) (fun q e => va_neR q hu ht e.symm)
theorem exRef {t : Term} {E : String} {s : State} {args : Array Value} (h : (Cond.exactly t E).before args s = true) : ∃ x : Nat, t.eval args s none [] s = some (.ref x) := by
  cases hv : t.eval args s none [] s with
  | none => simp [Cond.before, Cond.holds, Cond.value, hv] at h
  | some w => cases w with
    | ref x => exact ⟨x, rfl⟩
    | _ => cases hc : s.vm.findClass E <;> simp [Cond.before, Cond.holds, Cond.value, hv, hc] at h
theorem wGr (C0 : lw_At p s m meth c b L xs) : ∃ ad : Nat → Nat, (∀ i, i < 3 → (tGr i).eval #[Value.ref b] s none [] s = some (.ref (ad i)) ∧ ∀ q ∈ xFG, va_OF q.1 q.2.1 q.2.2.1 (.int (q.2.2.2.getD i 0)) (ad i) (xA s.heap.size) s s.heap) ∧ ∀ i j, i < 3 → j < 3 → ad i = ad j → i = j := by
  have h0 : ∀ i : Nat, ∃ x : Nat, i < 3 → (tGr i).eval #[Value.ref b] s none [] s = some (.ref x) := fun i => by
    by_cases hi : i < 3
    · obtain ⟨x, hx⟩ := exRef (wna C0 ((show ∀ i, i < 3 → Cond.exactly (tGr i) "Stuccohand$Ground" ∈ nCs from by decide +kernel) i hi))
      exact ⟨x, fun _ => hx⟩
    · exact ⟨0, fun q => absurd q hi⟩
  obtain ⟨ad, had⟩ := Classical.skolem.mp h0
  refine ⟨ad, fun i hi => ⟨had i hi, fun q hq => ?_⟩, fun i j hi hj e => ?_⟩
  · exact va_Efof (N := 3) (nm := xNG) (E := "Stuccohand$Ground") (d0 := "LStuccohand$Ground;") (v := fun i => .int (q.2.2.2.getD i 0)) (tm := fun i => .int (q.2.2.2.getD i 0)) had (fun i hi => wna C0 ((show ∀ q ∈ xFG, ∀ i, i < 3 → Cond.eq (.field (tGr i) q.1 q.2.1 q.2.2.1) (.int (q.2.2.2.getD i 0)) ∈ nCs from by decide +kernel) q hq i hi)) (fun i hi => by simp [Term.eval]) hA0 i hi
  · refine Classical.byContradiction (fun hne => ?_)
    exact tdiff (((show ∀ i, i < 3 → ∀ j, j < 3 → i ≠ j → (Cond.not (.eq (tGr i) (tGr j)) ∈ nCs ∨ Cond.not (.eq (tGr j) (tGr i)) ∈ nCs) from by decide +kernel) i hi j hj hne).imp (fun q => wna C0 q) (fun q => wna C0 q)) (had i hi) (had j hj) e
theorem wPl2 (C0 : lw_At p s m meth c b L xs) {ad : Nat → Nat} (h : va_Ec "Stuccohand$Plaster" "Stuccohand$Plaster" "LStuccohand$Plaster;" xNP xFP ad (xA s.heap.size) s s.heap) (i : Nat) (hi : i < 4) : (tPl i).eval #[Value.ref b] s none [] s = some (.ref (ad i)) := Zev (h.1 i hi).1
/-- an array that a static tells of -/
theorem wArr {C n d : String} {ty : FieldType} {N : Nat} {f : Nat → Value} (C0 : lw_At p s m meth c b L xs) (hl : Cond.laysStatic C n d ∈ lw_tbl) (hi : Cond.initialized C ∈ lw_tbl) (hN : N < 2 ^ 31) (harr : Cond.arrayOf (.static C n d) ty ∈ nCs) (hlen : Cond.eq (.length (.static C n d)) (.int (Int32.ofNat N)) ∈ nCs) (hel : ∀ j : Nat, j < N → (Term.elem (.static C n d) (.int (Int32.ofNat j))).eval #[Value.ref b] s none [] s = some (f j)) : ∃ t : Nat, va_Z C n d (.ref t) (xA s.heap.size) s s.heap ∧ va_T ty t N f (xA s.heap.size) s s.heap := by
  obtain ⟨t, h1, h2⟩ := va_Tof hN (wna C0 harr) (va_eqt (wna C0 hlen)) hel hA0
  exact ⟨t, va_Zref (wlw C0 _ hl) (wlw C0 _ hi) h1 hA0, h2⟩
theorem wPLA (C0 : lw_At p s m meth c b L xs) {ad : Nat → Nat} (h : va_Ec "Stuccohand$Plaster" "Stuccohand$Plaster" "LStuccohand$Plaster;" xNP xFP ad (xA s.heap.size) s s.heap) : ∃ t : Nat, va_Z "Stuccohand" "PLASTERS" "[LStuccohand$Plaster;" (.ref t) (xA s.heap.size) s s.heap ∧ va_T (.object "Stuccohand$Plaster") t 4 (fun j => .ref (ad j)) (xA s.heap.size) s s.heap :=
  wArr C0 (by decide +kernel) (by decide +kernel) (by decide) (by decide +kernel) (by decide +kernel) (fun j hj => va_eqv (wna C0 ((show ∀ j, j < 4 → Cond.eq (.elem (.static "Stuccohand" "PLASTERS" "[LStuccohand$Plaster;") (.int (Int32.ofNat j))) (tPl j) ∈ nCs from by decide +kernel) j hj)) (wPl2 C0 h j hj))
theorem wGRA (C0 : lw_At p s m meth c b L xs) {ad : Nat → Nat} (h : ∀ i, i < 3 → (tGr i).eval #[Value.ref b] s none [] s = some (.ref (ad i))) : ∃ t : Nat, va_Z "Stuccohand" "GROUNDS" "[LStuccohand$Ground;" (.ref t) (xA s.heap.size) s s.heap ∧ va_T (.object "Stuccohand$Ground") t 3 (fun j => .ref (ad j)) (xA s.heap.size) s s.heap :=
  wArr C0 (by decide +kernel) (by decide +kernel) (by decide) (by decide +kernel) (by decide +kernel) (fun j hj => va_eqv (wna C0 ((show ∀ j, j < 3 → Cond.eq (.elem (.static "Stuccohand" "GROUNDS" "[LStuccohand$Ground;") (.int (Int32.ofNat j))) (tGr j) ∈ nCs from by decide +kernel) j hj)) (h j hj))
theorem wDEF (C0 : lw_At p s m meth c b L xs) : ∃ t : Nat, va_Z "java/util/ArrayList" "DEFAULTCAPACITY_EMPTY_ELEMENTDATA" "[Ljava/lang/Object;" (.ref t) (xA s.heap.size) s s.heap ∧ va_T (.object "java/lang/Object") t 0 (fun _ => .null) (xA s.heap.size) s s.heap :=
  wArr C0 (by decide +kernel) (by decide +kernel) (by decide) (by decide +kernel) (by decide +kernel) (fun j hj => absurd hj (Nat.not_lt_zero _))
theorem memR {N k : Nat} {g : Nat → Cond} {l : List Cond} (h : (l.drop k).take N = (List.range N).map g) {j : Nat} (hj : j < N) : g j ∈ l := by
  have : g j ∈ (l.drop k).take N := by rw [h]; exact List.mem_map.mpr ⟨j, List.mem_range.mpr hj, rfl⟩
  exact List.mem_of_mem_drop (List.mem_of_mem_take this)
theorem memT : (nCs.drop 145).take 100 = (List.range 100).map (fun j => Cond.eq (.elem (.static "java/lang/Integer" "DigitTens" "[B") (.int (Int32.ofNat j))) (.int (Int32.ofNat (48 + j / 10)))) := by decide +kernel
theorem memO : (nCs.drop 42).take 100 = (List.range 100).map (fun j => Cond.eq (.elem (.static "java/lang/Integer" "DigitOnes" "[B") (.int (Int32.ofNat j))) (.int (Int32.ofNat (48 + j % 10)))) := by decide +kernel
theorem wTens (C0 : lw_At p s m meth c b L xs) : ∃ t : Nat, va_Z "java/lang/Integer" "DigitTens" "[B" (.ref t) (xA s.heap.size) s s.heap ∧ va_T .byte t 100 xDT (xA s.heap.size) s s.heap :=
  wArr C0 (by decide +kernel) (by decide +kernel) (by decide) (by decide +kernel) (by decide +kernel) (fun j hj => va_eqt (wna C0 (memR memT hj)))
theorem wOnes (C0 : lw_At p s m meth c b L xs) : ∃ t : Nat, va_Z "java/lang/Integer" "DigitOnes" "[B" (.ref t) (xA s.heap.size) s s.heap ∧ va_T .byte t 100 xDO (xA s.heap.size) s s.heap :=
  wArr C0 (by decide +kernel) (by decide +kernel) (by decide) (by decide +kernel) (by decide +kernel) (fun j hj => va_eqt (wna C0 (memR memO hj)))
theorem wCS (C0 : lw_At p s m meth c b L xs) : va_Z "java/lang/String" "COMPACT_STRINGS" "Z" (.int 1) (xA s.heap.size) s s.heap := va_Zof (wlw C0 _ (by decide +kernel)) (wlw C0 _ (by decide +kernel)) (va_eqi (wna C0 (by decide +kernel))) hA0
theorem wSI (C0 : lw_At p s m meth c b L xs) : ∃ n : Nat, va_Z "jdk/internal/util/Preconditions" "SIOOBE_FORMATTER" "Ljava/util/function/BiFunction;" (xnv n) (xA s.heap.size) s s.heap := by
  rcases va_Zqof (wlw C0 (.laysStatic "jdk/internal/util/Preconditions" "SIOOBE_FORMATTER" "Ljava/util/function/BiFunction;") (by decide +kernel)) (wlw C0 _ (by decide +kernel)) (wna C0 (by decide +kernel)) hA0 with h | ⟨t, h⟩
  · exact ⟨0, h⟩
  · exact ⟨t + 1, h⟩
theorem wUS (C0 : lw_At p s m meth c b L xs) : vx_Zq Bundle.tN "UNASSIGNED_STACK" Bundle.steD (xA s.heap.size) s s.heap := vx_Zqof (wlw C0 _ (by decide +kernel)) (wlw C0 _ (by decide +kernel)) (wna C0 (by decide +kernel)) hA0
theorem wSS (C0 : lw_At p s m meth c b L xs) : vx_Zq Bundle.tN "SUPPRESSED_SENTINEL" Bundle.listD (xA s.heap.size) s s.heap := vx_Zqof (wlw C0 _ (by decide +kernel)) (wlw C0 _ (by decide +kernel)) (wna C0 (by decide +kernel)) hA0
end
