/-! constants, natives, the ends of a method (printed by wip/gen/gen24.py) -/
theorem xcast_asg {C E : String} {s : State} (h : va_Nw (.castable C E) s) : ∀ comp c0 : ClassId, s.vm.findClass E = some comp → s.vm.findClass C = some c0 → s.vm.assignable c0 comp = true := by
  intro comp c0 h1 h2
  have h9 : (Cond.castable C E).before #[] s = true := h
  simp only [Cond.before, Cond.holds, Cond.value, h1, h2] at h9
  simpa using h9
theorem xacw : (([] : List Value).map fun v => v.category).sum + (nativeFrameWords "java/lang/System" "arraycopy" 5 + 11) ≤ 60 := by decide +kernel
theorem xEx_cast {E : Nat} (h : E < 3) : (xEx E, xEx E) ∈ xCasts := by
  match E, h with
  | 0, _ => decide +kernel
  | 1, _ => decide +kernel
  | 2, _ => decide +kernel
/-- the words of a throw that are no good words -/
abbrev xBad (E : Nat) : List Cond := [Cond.castable (xEx E) (xEx E), Cond.declares ⟨"java/lang/RuntimeException", "<init>", "(Ljava/lang/String;)V"⟩, Cond.declares ⟨"java/lang/Exception", "<init>", "(Ljava/lang/String;)V"⟩, Cond.declares ⟨"java/lang/Throwable", "<init>", "(Ljava/lang/String;)V"⟩]
theorem xEx_fit (E : Nat) : Bundle.fit (xEx E) = true := by
  match E with
  | 0 => decide +kernel
  | 1 => decide +kernel
  | n + 2 => show Bundle.fit xIOB = true; decide +kernel
theorem xNames_fit : ∀ n ∈ ["java/lang/RuntimeException", "java/lang/Exception"], Bundle.fit n = true := by decide +kernel
theorem xHR_ext {D : va_G} {dA : Nat → ClassId} {sz0 : Nat} {ah : xH} {H H1 : Heap} (h : xHR D dA sz0 ah H) (hsz : H.size ≤ H1.size) (hq : ∀ q : Nat, q < H.size → H1[q]? = H[q]?) : xHR D dA sz0 ah H1 := by
  obtain ⟨ws, hP, hD, h1, h2⟩ := h
  exact ⟨ws, fun k q hk => (hP k q hk).kept (hq _ (hP k q hk).lt), hD, h1, h2⟩
theorem sn_getstatic {l : Launch} {D : va_G} {dA : Nat → ClassId} {sz0 : Nat} {κ : Nat → Nat} {cc : ByteArray} {own : String} {nL : Nat} {hh : List (Nat × Nat × Nat × Nat)} {fr lo : Nat} {Fn : xFn} {pc : Nat} {C n9 d9 : String} {v : Value} {idx : Nat} (hZ : ∀ (U : State) (H : Heap), xGh κ (xA sz0) U H → va_Z C n9 d9 v (xA sz0) U H) (hw : Cond.fieldLink own idx C n9 d9 ∈ xWds) (hd : decode cc pc = .ok (.getstatic idx, 3)) : xSnd l D dA sz0 κ cc own nL hh fr lo Fn pc (oK v (pc + 3)) := by
  intro p e R s m args below meth c Q Rr P ls st ah k n C hfr hlo hFn hP h H locs L cells slots hH hS hL hk hn
  obtain ⟨hx, hb, hml, hown, hts, hIn, hst, hlk, htb⟩ := C
  exact va_gets hx hb (hZ s s.heap hIn.2.2.1) hS hown (hts _ hw) (fun _ h => h) hd (hP _ h H locs L cells slots hH hS hL hk hn)

theorem sn_ldcS {l : Launch} {D : va_G} {dA : Nat → ClassId} {sz0 : Nat} {κ : Nat → Nat} {cc : ByteArray} {own : String} {nL : Nat} {hh : List (Nat × Nat × Nat × Nat)} {fr lo : Nat} {Fn : xFn} {pc : Nat} {tx : String} {v idx : Nat} (hZ : ∀ (U : State), xGw κ U → vk_R own idx tx v U) (hd : decode cc pc = .ok (.ldc idx, 2)) : xSnd l D dA sz0 κ cc own nL hh fr lo Fn pc (oK (.ref v) (pc + 2)) := by
  intro p e R s m args below meth c Q Rr P ls st ah k n C hfr hlo hFn hP h H locs L cells slots hH hS hL hk hn
  obtain ⟨hx, hb, hml, hown, hts, hIn, hst, hlk, htb⟩ := C
  exact va_ldcS hx hb hown (hZ s hIn.2.2.2) hd (hP _ h H locs L cells slots hH hS hL hk hn)

theorem sn_ldcM {l : Launch} {D : va_G} {dA : Nat → ClassId} {sz0 : Nat} {κ : Nat → Nat} {cc : ByteArray} {own : String} {nL : Nat} {hh : List (Nat × Nat × Nat × Nat)} {fr lo : Nat} {Fn : xFn} {pc : Nat} {idx : Nat} (hw : Cond.classLink own idx "[Ljava/lang/Object;" ∈ xWds) (hd : decode cc pc = .ok (.ldc idx, 2)) : xSnd l D dA sz0 κ cc own nL hh fr lo Fn pc (oK (.ref (κ 32)) (pc + 2)) := by
  intro p e R s m args below meth c Q Rr P ls st ah k n C hfr hlo hFn hP h H locs L cells slots hH hS hL hk hn
  obtain ⟨hx, hb, hml, hown, hts, hIn, hst, hlk, htb⟩ := C
  exact va_ldcM hx hb hown (hts _ hw) hIn.2.2.2.2.2.2.2.1 hd (hP _ h H locs L cells slots hH hS hL hk hn)

theorem sn_getE {l : Launch} {D : va_G} {dA : Nat → ClassId} {sz0 : Nat} {κ : Nat → Nat} {cc : ByteArray} {own : String} {nL : Nat} {hh : List (Nat × Nat × Nat × Nat)} {fr lo : Nat} {Fn : xFn} {pc : Nat} {O n9 d9 : String} {idx b N : Nat} {vs : Nat → Value} (hE : ∀ (U : State) (H : Heap), xGh κ (xA sz0) U H → ∀ i, i < N → va_OF O n9 d9 (vs i) (κ (b + i)) (xA sz0) U H) (hw : Cond.fieldLink own idx O n9 d9 ∈ xWds) (hd : decode cc pc = .ok (.getfield idx, 3)) : xSnd l D dA sz0 κ cc own nL hh fr lo Fn pc (oGetE κ b N vs (pc + 3)) := by
  intro p e R s m args below meth c Q Rr P ls st ah k n C hfr hlo hFn hP h H locs L cells slots hH hS hL hk hn
  obtain ⟨hx, hb, hml, hown, hts, hIn, hst, hlk, htb⟩ := C
  rcases st with _ | ⟨v, st⟩
  · exact False.elim h
  cases v <;> try (simp only [oGetE] at h; done)
  rename_i a
  obtain ⟨i, hi, rfl, h⟩ := h
  exact vk_getf hx hb (hE s s.heap hIn.2.2.1 i hi) hS hown (hts _ hw) (fun _ h => h) hd (hP _ h H locs L cells slots hH hS hL hk hn)

theorem sn_aaldK {l : Launch} {D : va_G} {dA : Nat → ClassId} {sz0 : Nat} {κ : Nat → Nat} {cc : ByteArray} {own : String} {nL : Nat} {hh : List (Nat × Nat × Nat × Nat)} {fr lo : Nat} {Fn : xFn} {pc : Nat} {C : String} {b N : Nat} {vs : Nat → Value} (hT : ∀ (U : State) (H : Heap), xGh κ (xA sz0) U H → va_T (.object C) (κ b) N vs (xA sz0) U H) (hd : decode cc pc = .ok (.aaload, 1)) : xSnd l D dA sz0 κ cc own nL hh fr lo Fn pc (oAldK κ b N vs (pc + 1)) := by
  intro p e R s m args below meth c Q Rr P ls st ah k n C hfr hlo hFn hP h H locs L cells slots hH hS hL hk hn
  obtain ⟨hx, hb, hml, hown, hts, hIn, hst, hlk, htb⟩ := C
  rcases st with _ | ⟨v, st⟩
  · exact False.elim h
  cases v <;> try (simp only [oAldK] at h; done)
  rename_i i
  rcases st with _ | ⟨v, st⟩
  · exact False.elim h
  cases v <;> try (simp only [oAldK] at h; done)
  rename_i a
  obtain ⟨rfl, hi, h⟩ := h
  exact vb_tq hx hb (hT s s.heap hIn.2.2.1) hS hi rfl hd (hP _ h H locs L cells slots hH hS hL hk hn)

theorem sn_ialdK {l : Launch} {D : va_G} {dA : Nat → ClassId} {sz0 : Nat} {κ : Nat → Nat} {cc : ByteArray} {own : String} {nL : Nat} {hh : List (Nat × Nat × Nat × Nat)} {fr lo : Nat} {Fn : xFn} {pc : Nat} {b N : Nat} {vs : Nat → Value} (hT : ∀ (U : State) (H : Heap), xGh κ (xA sz0) U H → va_T .int (κ b) N vs (xA sz0) U H) (hd : decode cc pc = .ok (.iaload, 1)) : xSnd l D dA sz0 κ cc own nL hh fr lo Fn pc (oAldK κ b N vs (pc + 1)) := by
  intro p e R s m args below meth c Q Rr P ls st ah k n C hfr hlo hFn hP h H locs L cells slots hH hS hL hk hn
  obtain ⟨hx, hb, hml, hown, hts, hIn, hst, hlk, htb⟩ := C
  rcases st with _ | ⟨v, st⟩
  · exact False.elim h
  cases v <;> try (simp only [oAldK] at h; done)
  rename_i i
  rcases st with _ | ⟨v, st⟩
  · exact False.elim h
  cases v <;> try (simp only [oAldK] at h; done)
  rename_i a
  obtain ⟨rfl, hi, h⟩ := h
  exact va_ti hx hb (hT s s.heap hIn.2.2.1) hS hi rfl hd (hP _ h H locs L cells slots hH hS hL hk hn)

theorem sn_baldK {l : Launch} {D : va_G} {dA : Nat → ClassId} {sz0 : Nat} {κ : Nat → Nat} {cc : ByteArray} {own : String} {nL : Nat} {hh : List (Nat × Nat × Nat × Nat)} {fr lo : Nat} {Fn : xFn} {pc : Nat} {b N : Nat} {vs : Nat → Value} (hT : ∀ (U : State) (H : Heap), xGh κ (xA sz0) U H → va_T .byte (κ b) N vs (xA sz0) U H) (hd : decode cc pc = .ok (.baload, 1)) : xSnd l D dA sz0 κ cc own nL hh fr lo Fn pc (oAldK κ b N vs (pc + 1)) := by
  intro p e R s m args below meth c Q Rr P ls st ah k n C hfr hlo hFn hP h H locs L cells slots hH hS hL hk hn
  obtain ⟨hx, hb, hml, hown, hts, hIn, hst, hlk, htb⟩ := C
  rcases st with _ | ⟨v, st⟩
  · exact False.elim h
  cases v <;> try (simp only [oAldK] at h; done)
  rename_i i
  rcases st with _ | ⟨v, st⟩
  · exact False.elim h
  cases v <;> try (simp only [oAldK] at h; done)
  rename_i a
  obtain ⟨rfl, hi, h⟩ := h
  exact va_tb hx hb (hT s s.heap hIn.2.2.1) hS hi rfl hd (hP _ h H locs L cells slots hH hS hL hk hn)

theorem sn_lenK {l : Launch} {D : va_G} {dA : Nat → ClassId} {sz0 : Nat} {κ : Nat → Nat} {cc : ByteArray} {own : String} {nL : Nat} {hh : List (Nat × Nat × Nat × Nat)} {fr lo : Nat} {Fn : xFn} {pc : Nat} {ty : FieldType} {b N : Nat} {vs : Nat → Value} (hT : ∀ (U : State) (H : Heap), xGh κ (xA sz0) U H → va_T ty (κ b) N vs (xA sz0) U H) (hd : decode cc pc = .ok (.arraylength, 1)) : xSnd l D dA sz0 κ cc own nL hh fr lo Fn pc (oLenK κ b N (pc + 1)) := by
  intro p e R s m args below meth c Q Rr P ls st ah k n C hfr hlo hFn hP h H locs L cells slots hH hS hL hk hn
  obtain ⟨hx, hb, hml, hown, hts, hIn, hst, hlk, htb⟩ := C
  rcases st with _ | ⟨v, st⟩
  · exact False.elim h
  cases v <;> try (simp only [oLenK, iC] at h; done)
  rename_i a
  obtain ⟨rfl, h⟩ := h
  exact va_tlen hx hb (hT s s.heap hIn.2.2.1) hS rfl hd (hP _ h H locs L cells slots hH hS hL hk hn)

theorem sn_lenE {l : Launch} {D : va_G} {dA : Nat → ClassId} {sz0 : Nat} {κ : Nat → Nat} {cc : ByteArray} {own : String} {nL : Nat} {hh : List (Nat × Nat × Nat × Nat)} {fr lo : Nat} {Fn : xFn} {pc : Nat} {ty : FieldType} {b N : Nat} {len : Nat → Nat} {vs : Nat → Nat → Value} (hT : ∀ (U : State) (H : Heap), xGh κ (xA sz0) U H → ∀ i, i < N → va_T ty (κ (b + i)) (len i) (vs i) (xA sz0) U H) (hd : decode cc pc = .ok (.arraylength, 1)) : xSnd l D dA sz0 κ cc own nL hh fr lo Fn pc (oLenE κ b N len (pc + 1)) := by
  intro p e R s m args below meth c Q Rr P ls st ah k n C hfr hlo hFn hP h H locs L cells slots hH hS hL hk hn
  obtain ⟨hx, hb, hml, hown, hts, hIn, hst, hlk, htb⟩ := C
  rcases st with _ | ⟨v, st⟩
  · exact False.elim h
  cases v <;> try (simp only [oLenE] at h; done)
  rename_i a
  obtain ⟨i, hi, rfl, h⟩ := h
  exact va_tlen hx hb (hT s s.heap hIn.2.2.1 i hi) hS rfl hd (hP _ h H locs L cells slots hH hS hL hk hn)

theorem sn_lenU {l : Launch} {D : va_G} {dA : Nat → ClassId} {sz0 : Nat} {κ : Nat → Nat} {cc : ByteArray} {own : String} {nL : Nat} {hh : List (Nat × Nat × Nat × Nat)} {fr lo : Nat} {Fn : xFn} {pc : Nat} {ty : FieldType} {b N : Nat} {vs : Nat → Value} (hT : ∀ (U : State) (H : Heap), xGh κ (xA sz0) U H → va_T ty (κ b) N vs (xA sz0) U H) (hd : decode cc pc = .ok (.arraylength, 1)) : xSnd l D dA sz0 κ cc own nL hh fr lo Fn pc (oLenU κ b N (pc + 1)) := by
  intro p e R s m args below meth c Q Rr P ls st ah k n C hfr hlo hFn hP h H locs L cells slots hH hS hL hk hn
  obtain ⟨hx, hb, hml, hown, hts, hIn, hst, hlk, htb⟩ := C
  rcases st with _ | ⟨v, st⟩
  · exact False.elim h
  cases v <;> try (simp only [oLenU] at h; done)
  rename_i a
  rcases h with ⟨rfl, h⟩ | ⟨A, hA, h⟩
  · exact va_tlen hx hb (hT s s.heap hIn.2.2.1) hS rfl hd (hP _ h H locs L cells slots hH hS hL hk hn)
  · obtain ⟨t, x, ht, hf⟩ := xalen_some hA
    obtain ⟨ws, j, hP0, hD0, hj, -, -⟩ := xHR_at hH hf
    obtain ⟨ty, hty⟩ := xtys_at dA ht
    exact va_alen hx hb hIn.2.1 hP0 j t hj hty rfl hd (hP _ h H locs L cells slots hH hS hL hk hn)

theorem sn_aastore {l : Launch} {D : va_G} {dA : Nat → ClassId} {sz0 : Nat} {κ : Nat → Nat} {cc : ByteArray} {own : String} {nL : Nat} {hh : List (Nat × Nat × Nat × Nat)} {fr lo : Nat} {Fn : xFn} {pc : Nat} {oks : List Nat} (hok : ∀ ci ∈ oks, ∃ C T N, vwCl[ci]? = some (C, T, N) ∧ (C, "java/lang/Object") ∈ xCasts) (hd : decode cc pc = .ok (.aastore, 1)) : xSnd l D dA sz0 κ cc own nL hh fr lo Fn pc (oAast oks (pc + 1)) := by
  intro p e R s m args below meth c Q Rr P ls st ah k n C hfr hlo hFn hP h H locs L cells slots hH hS hL hk hn
  obtain ⟨hx, hb, hml, hown, hts, hIn, hst, hlk, htb⟩ := C
  rcases st with _ | ⟨v, st⟩
  · exact False.elim h
  rcases st with _ | ⟨w, st⟩
  · cases v <;> exact False.elim h
  rcases st with _ | ⟨u, st⟩
  · cases v <;> cases w <;> exact False.elim h
  cases v <;> cases w <;> try (simp only [oAast] at h; done)
  · cases u <;> try (simp only [oAast] at h; done)
    rename_i i a
    obtain ⟨A, hA, hin, h⟩ := h
    have hf := xaq_some hA
    obtain ⟨ws, j, hP0, hD0, hj, -, hgo⟩ := xHR_at hH hf
    exact va_astqN hx hb hIn.2.1 hP0 hD0 hS j 5 hj rfl hin hd (fun H1 locs1 hP1 hD1 hS1 => hP _ h H1 locs1 L cells slots (hgo (.inl (5, A.1, .inr (.inr (.inr (.inr (va_up A.2 i.toNatClampNeg none)))))) _ hP1 hD1) hS1 hL hk hn)
  · cases u <;> try (simp only [oAast] at h; done)
    rename_i v i a
    obtain ⟨A, hA, hin, ⟨ci, fs, hci, hv⟩, h⟩ := h
    have hf := xaq_some hA
    obtain ⟨ws, j, hP0, hD0, hj, hal, hgo⟩ := xHR_at hH hf
    obtain ⟨C, T, N, hc, hcast⟩ := hok ci hci
    obtain ⟨j2, hj2⟩ := hal v _ hv
    have hAny : va_Any "java/lang/Object" s H v := va_rAny hIn.2.1 hP0 hj2 hc (xcast_asg (hIn.2.2.2.1 _ hcast))
    exact va_astqM hx hb hIn.2.1 hP0 hD0 hS j 5 hj rfl hAny hin hd (fun H1 locs1 hP1 hD1 hS1 => hP _ h H1 locs1 L cells slots (hgo (.inl (5, A.1, .inr (.inr (.inr (.inr (va_up A.2 i.toNatClampNeg (some v))))))) _ hP1 hD1) hS1 hL hk hn)

theorem sn_cpyQ {l : Launch} {D : va_G} {dA : Nat → ClassId} {sz0 : Nat} {κ : Nat → Nat} {cc : ByteArray} {own : String} {nL : Nat} {hh : List (Nat × Nat × Nat × Nat)} {fr lo : Nat} {Fn : xFn} {pc : Nat} {oks : List Nat} (hok : ∀ ci ∈ oks, ∃ C T N, vwCl[ci]? = some (C, T, N) ∧ (C, "java/lang/Object") ∈ xCasts) {idx : Nat} (hw : Cond.methodLink own idx arraycopyName ∈ xWds) (hw2 : Cond.native arraycopyName ∈ xWds) (hw3 : Cond.static arraycopyName ∈ xWds) (hw4 : Cond.initialized "java/lang/System" ∈ xWds) (hfr1 : 1 ≤ fr) (hlo1 : 60 ≤ lo) (hd : decode cc pc = .ok (.invokestatic idx, 3)) : xSnd l D dA sz0 κ cc own nL hh fr lo Fn pc (oCpyQ oks (pc + 3)) := by
  intro p e R s m args below meth c Q Rr P ls st ah k n C hfr hlo hFn hP h H locs L cells slots hH hS hL hk hn
  obtain ⟨hx, hb, hml, hown, hts, hIn, hst, hlk, htb⟩ := C
  rcases st with _ | ⟨v1, st⟩
  · exact False.elim h
  cases v1 <;> try (simp only [oCpyQ] at h; done)
  rcases st with _ | ⟨v2, st⟩
  · exact False.elim h
  cases v2 <;> try (simp only [oCpyQ] at h; done)
  rcases st with _ | ⟨v3, st⟩
  · exact False.elim h
  cases v3 <;> try (simp only [oCpyQ] at h; done)
  rcases st with _ | ⟨v4, st⟩
  · exact False.elim h
  cases v4 <;> try (simp only [oCpyQ] at h; done)
  rcases st with _ | ⟨v5, st⟩
  · exact False.elim h
  cases v5 <;> try (simp only [oCpyQ] at h; done)
  rcases st with _ | ⟨v6, st⟩
  rotate_left
  · exact False.elim h
  rename_i z dp a sp b0
  have hlw : (([] : List Value).map fun v => v.category).sum + (nativeFrameWords "java/lang/System" "arraycopy" 5 + 11) ≤ R.locals := Nat.le_trans xacw (Nat.le_trans hlo1 hlo)
  obtain ⟨B, hB, A, hA, ⟨h1, h2, h3⟩, ⟨h4, h5⟩, h6, h⟩ := h
  have hfA := xaq_some hA
  have hfB := xaq_some hB
  obtain ⟨ws, j, hP0, hD0, hj, hal, hgo⟩ := xHR_at hH hfA
  obtain ⟨jB, hjB⟩ := hal b0 _ hfB
  refine va_copyM hx hb (hml.trans hL.1.symm) hown (hts _ hw) (hts _ hw2) (hts _ hw3) (hts _ hw4) hIn.2.1 hP0 hD0 hS jB j 5 5 hjB hj rfl rfl h1 h2 h3 h4 h5 (fun i hi y hy => ?_) (by omega) hlw hd (fun H1 locs1 hP1 hD1 hS1 => hP _ h H1 locs1 L cells slots (hgo (.inl (5, A.1, .inr (.inr (.inr (.inr (va_cpy B.2 A.2 sp.toNatClampNeg dp.toNatClampNeg z.toNatClampNeg)))))) _ hP1 hD1) hS1 hL hk hn)
  obtain ⟨ci, fs, hci, hv⟩ := h6 i hi y hy
  obtain ⟨C, T, N, hc, hcast⟩ := hok ci hci
  obtain ⟨j2, hj2⟩ := hal y _ hv
  exact va_rAny hIn.2.1 hP0 hj2 hc (xcast_asg (hIn.2.2.2.1 _ hcast))

theorem sn_cpyB {l : Launch} {D : va_G} {dA : Nat → ClassId} {sz0 : Nat} {κ : Nat → Nat} {cc : ByteArray} {own : String} {nL : Nat} {hh : List (Nat × Nat × Nat × Nat)} {fr lo : Nat} {Fn : xFn} {pc : Nat} {idx : Nat} (hw : Cond.methodLink own idx arraycopyName ∈ xWds) (hw2 : Cond.native arraycopyName ∈ xWds) (hw3 : Cond.static arraycopyName ∈ xWds) (hw4 : Cond.initialized "java/lang/System" ∈ xWds) (hfr1 : 1 ≤ fr) (hlo1 : 60 ≤ lo) (hd : decode cc pc = .ok (.invokestatic idx, 3)) : xSnd l D dA sz0 κ cc own nL hh fr lo Fn pc (oCpyB (pc + 3)) := by
  intro p e R s m args below meth c Q Rr P ls st ah k n C hfr hlo hFn hP h H locs L cells slots hH hS hL hk hn
  obtain ⟨hx, hb, hml, hown, hts, hIn, hst, hlk, htb⟩ := C
  rcases st with _ | ⟨v1, st⟩
  · exact False.elim h
  cases v1 <;> try (simp only [oCpyB] at h; done)
  rcases st with _ | ⟨v2, st⟩
  · exact False.elim h
  cases v2 <;> try (simp only [oCpyB] at h; done)
  rcases st with _ | ⟨v3, st⟩
  · exact False.elim h
  cases v3 <;> try (simp only [oCpyB] at h; done)
  rcases st with _ | ⟨v4, st⟩
  · exact False.elim h
  cases v4 <;> try (simp only [oCpyB] at h; done)
  rcases st with _ | ⟨v5, st⟩
  · exact False.elim h
  cases v5 <;> try (simp only [oCpyB] at h; done)
  rcases st with _ | ⟨v6, st⟩
  rotate_left
  · exact False.elim h
  rename_i z dp a sp b0
  have hlw : (([] : List Value).map fun v => v.category).sum + (nativeFrameWords "java/lang/System" "arraycopy" 5 + 11) ≤ R.locals := Nat.le_trans xacw (Nat.le_trans hlo1 hlo)
  obtain ⟨B, hB, A, hA, ⟨h1, h2, h3⟩, ⟨h4, h5⟩, h6, h⟩ := h
  have hfA := xai_some hA
  have hfB := xai_some hB
  obtain ⟨ws, j, hP0, hD0, hj, hal, hgo⟩ := xHR_at hH hfA
  obtain ⟨jB, hjB⟩ := hal b0 _ hfB
  exact va_copyi hx hb (hml.trans hL.1.symm) hown (hts _ hw) (hts _ hw2) (hts _ hw3) (hts _ hw4) hIn.2.1 hP0 hD0 hS jB j 2 2 hjB hj rfl rfl rfl h1 h2 h3 h4 h5 h6 (by omega) hlw hd (fun H1 locs1 hP1 hD1 hS1 => hP _ h H1 locs1 L cells slots (hgo (.inl (2, A.1, .inl (va_cpy B.2 A.2 sp.toNatClampNeg dp.toNatClampNeg z.toNatClampNeg))) _ hP1 hD1) hS1 hL hk hn)

theorem sn_cpyT {l : Launch} {D : va_G} {dA : Nat → ClassId} {sz0 : Nat} {κ : Nat → Nat} {cc : ByteArray} {own : String} {nL : Nat} {hh : List (Nat × Nat × Nat × Nat)} {fr lo : Nat} {Fn : xFn} {pc : Nat} {b N : Nat} {len : Nat → Nat} {byt : Nat → Nat → Int32} (hT : ∀ (U : State) (H : Heap), xGh κ (xA sz0) U H → ∀ i, i < N → va_T .byte (κ (b + i)) (len i) (fun j => .int (byt i j)) (xA sz0) U H) {idx : Nat} (hw : Cond.methodLink own idx arraycopyName ∈ xWds) (hw2 : Cond.native arraycopyName ∈ xWds) (hw3 : Cond.static arraycopyName ∈ xWds) (hw4 : Cond.initialized "java/lang/System" ∈ xWds) (hfr1 : 1 ≤ fr) (hlo1 : 60 ≤ lo) (hd : decode cc pc = .ok (.invokestatic idx, 3)) : xSnd l D dA sz0 κ cc own nL hh fr lo Fn pc (oCpyT κ b N len byt (pc + 3)) := by
  intro p e R s m args below meth c Q Rr P ls st ah k n C hfr hlo hFn hP h H locs L cells slots hH hS hL hk hn
  obtain ⟨hx, hb, hml, hown, hts, hIn, hst, hlk, htb⟩ := C
  rcases st with _ | ⟨v1, st⟩
  · exact False.elim h
  cases v1 <;> try (simp only [oCpyT] at h; done)
  rcases st with _ | ⟨v2, st⟩
  · exact False.elim h
  cases v2 <;> try (simp only [oCpyT] at h; done)
  rcases st with _ | ⟨v3, st⟩
  · exact False.elim h
  cases v3 <;> try (simp only [oCpyT] at h; done)
  rcases st with _ | ⟨v4, st⟩
  · exact False.elim h
  cases v4 <;> try (simp only [oCpyT] at h; done)
  rcases st with _ | ⟨v5, st⟩
  · exact False.elim h
  cases v5 <;> try (simp only [oCpyT] at h; done)
  rcases st with _ | ⟨v6, st⟩
  rotate_left
  · exact False.elim h
  rename_i z dp a sp b0
  have hlw : (([] : List Value).map fun v => v.category).sum + (nativeFrameWords "java/lang/System" "arraycopy" 5 + 11) ≤ R.locals := Nat.le_trans xacw (Nat.le_trans hlo1 hlo)
  obtain ⟨i, hi, rfl, A, hA, ⟨h1, h2, h3⟩, ⟨h4, h5⟩, h6, h⟩ := h
  have hfA := xai_some hA
  obtain ⟨ws, j, hP0, hD0, hj, hal, hgo⟩ := xHR_at hH hfA
  exact vk_copyt hx hb (hml.trans hL.1.symm) hown (hts _ hw) (hts _ hw2) (hts _ hw3) (hts _ hw4) hIn.2.1 hP0 hD0 hS (hT s s.heap hIn.2.2.1 i hi) j 2 hj rfl h1 h2 h3 h4 h5 h6 (by omega) hlw hd (fun H1 locs1 hP1 hD1 hS1 => hP _ h H1 locs1 L cells slots (hgo (.inl (2, A.1, .inl (va_cpy (byt i) A.2 sp.toNatClampNeg dp.toNatClampNeg z.toNatClampNeg))) _ hP1 hD1) hS1 hL hk hn)

theorem sn_mmax {l : Launch} {D : va_G} {dA : Nat → ClassId} {sz0 : Nat} {κ : Nat → Nat} {cc : ByteArray} {own : String} {nL : Nat} {hh : List (Nat × Nat × Nat × Nat)} {fr lo : Nat} {Fn : xFn} {pc : Nat} {idx : Nat} (hw : Cond.methodLink own idx Lib.Math.max.name ∈ xWds) (hw2 : Cond.static Lib.Math.max.name ∈ xWds) (hw3 : Cond.initialized "java/lang/Math" ∈ xWds) (hw4 : Cond.code Lib.Math.max.name Lib.Math.max.code 2 (some .int) ∈ xWds) (hfr1 : 1 ≤ fr) (hlo1 : 21 ≤ lo) (hd : decode cc pc = .ok (.invokestatic idx, 3)) : xSnd l D dA sz0 κ cc own nL hh fr lo Fn pc (oMax (pc + 3)) := by
  intro p e R s m args below meth c Q Rr P ls st ah k n C hfr hlo hFn hP h H locs L cells slots hH hS hL hk hn
  obtain ⟨hx, hb, hml, hown, hts, hIn, hst, hlk, htb⟩ := C
  rcases st with _ | ⟨v, st⟩
  · exact False.elim h
  cases v <;> try (simp only [oMax, iC] at h; done)
  rename_i y
  rcases st with _ | ⟨v, st⟩
  · exact False.elim h
  cases v <;> try (simp only [oMax, iC] at h; done)
  rename_i x
  obtain ⟨hsum, h⟩ := h
  exact va_mmax hx hb (hml.trans hL.1.symm) hown (hts _ hw) (hts _ hw2) (hts _ hw3) (hts _ hw4) (by omega) (by have hsum9 : (List.map (fun v : Value => v.category) st).sum ≤ 8 := hsum; omega) (by omega) (by omega) hd (hP _ h H locs L cells slots hH hS hL hk hn)

theorem sn_mmin {l : Launch} {D : va_G} {dA : Nat → ClassId} {sz0 : Nat} {κ : Nat → Nat} {cc : ByteArray} {own : String} {nL : Nat} {hh : List (Nat × Nat × Nat × Nat)} {fr lo : Nat} {Fn : xFn} {pc : Nat} {idx : Nat} (hw : Cond.methodLink own idx Lib.Math.min.name ∈ xWds) (hw2 : Cond.static Lib.Math.min.name ∈ xWds) (hw3 : Cond.initialized "java/lang/Math" ∈ xWds) (hw4 : Cond.code Lib.Math.min.name Lib.Math.min.code 2 (some .int) ∈ xWds) (hfr1 : 1 ≤ fr) (hlo1 : 21 ≤ lo) (hd : decode cc pc = .ok (.invokestatic idx, 3)) : xSnd l D dA sz0 κ cc own nL hh fr lo Fn pc (oMin (pc + 3)) := by
  intro p e R s m args below meth c Q Rr P ls st ah k n C hfr hlo hFn hP h H locs L cells slots hH hS hL hk hn
  obtain ⟨hx, hb, hml, hown, hts, hIn, hst, hlk, htb⟩ := C
  rcases st with _ | ⟨v, st⟩
  · exact False.elim h
  cases v <;> try (simp only [oMin, iC] at h; done)
  rename_i y
  rcases st with _ | ⟨v, st⟩
  · exact False.elim h
  cases v <;> try (simp only [oMin, iC] at h; done)
  rename_i x
  obtain ⟨hsum, h⟩ := h
  exact va_mmin hx hb (hml.trans hL.1.symm) hown (hts _ hw) (hts _ hw2) (hts _ hw3) (hts _ hw4) (by omega) (by have hsum9 : (List.map (fun v : Value => v.category) st).sum ≤ 8 := hsum; omega) (by omega) (by omega) hd (hP _ h H locs L cells slots hH hS hL hk hn)

theorem sn_getClass {l : Launch} {D : va_G} {dA : Nat → ClassId} {sz0 : Nat} {κ : Nat → Nat} {cc : ByteArray} {own : String} {nL : Nat} {hh : List (Nat × Nat × Nat × Nat)} {fr lo : Nat} {Fn : xFn} {pc : Nat} {idx : Nat} (hw : Cond.methodLink own idx ⟨"java/lang/Object", "getClass", "()Ljava/lang/Class;"⟩ ∈ xWds) (hw2 : Cond.selects "[Ljava/lang/Object;" ⟨"java/lang/Object", "getClass", "()Ljava/lang/Class;"⟩ ⟨"java/lang/Object", "getClass", "()Ljava/lang/Class;"⟩ ∈ xWds) (hw3 : Cond.instanceMethod ⟨"java/lang/Object", "getClass", "()Ljava/lang/Class;"⟩ ∈ xWds) (hw4 : Cond.native ⟨"java/lang/Object", "getClass", "()Ljava/lang/Class;"⟩ ∈ xWds) (hfr1 : 1 ≤ fr) (hlo1 : 22 ≤ lo) (hd : decode cc pc = .ok (.invokevirtual idx, 3)) : xSnd l D dA sz0 κ cc own nL hh fr lo Fn pc (oCls κ (pc + 3)) := by
  intro p e R s m args below meth c Q Rr P ls st ah k n C hfr hlo hFn hP h H locs L cells slots hH hS hL hk hn
  obtain ⟨hx, hb, hml, hown, hts, hIn, hst, hlk, htb⟩ := C
  rcases st with _ | ⟨v, st⟩
  · exact False.elim h
  cases v <;> try (simp only [oCls] at h; done)
  rename_i a
  obtain ⟨hsum, ⟨A, hA⟩, h⟩ := h
  have hf := xaq_some hA
  obtain ⟨ws, j, hP0, hD0, hj, -, -⟩ := xHR_at hH hf
  have hcell : H[a]? = some (vp_cell (dA 5) (A.1, .inr (.inr (.inr (.inr A.2))))) := hP0 j _ hj
  exact va_getC hx hb (hml.trans hL.1.symm) hown (hts _ hw) (va_Nw.use rfl (hIn.2.2.2.2.2.2.2.2.2.2 _ List.mem_cons_self)) (hts _ hw2) (hts _ hw3) (hts _ hw4) hIn.2.2.2.2.2.2.2.1 ⟨_, hcell, rfl, va_nmO (hIn.2.1.2 5 _ rfl).2 rfl⟩ (by omega) (by have hsum9 : (List.map (fun v : Value => v.category) st).sum ≤ 8 := hsum; omega) hd (hP _ h H locs L cells slots hH hS hL hk hn)

theorem sn_castQ {l : Launch} {D : va_G} {dA : Nat → ClassId} {sz0 : Nat} {κ : Nat → Nat} {cc : ByteArray} {own : String} {nL : Nat} {hh : List (Nat × Nat × Nat × Nat)} {fr lo : Nat} {Fn : xFn} {pc : Nat} {idx : Nat} (hw : Cond.classLink own idx "[Ljava/lang/Object;" ∈ xWds) (hd : decode cc pc = .ok (.checkcast idx, 3)) : xSnd l D dA sz0 κ cc own nL hh fr lo Fn pc (oCastQ (pc + 3)) := by
  intro p e R s m args below meth c Q Rr P ls st ah k n C hfr hlo hFn hP h H locs L cells slots hH hS hL hk hn
  obtain ⟨hx, hb, hml, hown, hts, hIn, hst, hlk, htb⟩ := C
  rcases st with _ | ⟨v, st⟩
  · exact False.elim h
  cases v <;> try (simp only [oCastQ] at h; done)
  rename_i a
  obtain ⟨A, hA, h⟩ := h
  have hf := xaq_some hA
  obtain ⟨ws, j, hP0, hD0, hj, -, -⟩ := xHR_at hH hf
  exact va_castA hx hb hown (hts _ hw) hP0 j hj (va_nmO (hIn.2.1.2 5 _ rfl).2 rfl) hd (hP _ h H locs L cells slots hH hS hL hk hn)

theorem sn_ireturn {l : Launch} {D : va_G} {dA : Nat → ClassId} {sz0 : Nat} {κ : Nat → Nat} {cc : ByteArray} {own : String} {nL : Nat} {hh : List (Nat × Nat × Nat × Nat)} {fr lo : Nat} {pc : Nat} {ty : FieldType} {nm : String} (hd : decode cc pc = .ok (.ireturn, 1)) : xSnd l D dA sz0 κ cc own nL hh fr lo (xFm D dA sz0 (some ty) nm) pc (oIr ty) := by
  intro p e R s m args below meth c Q Rr P ls st ah k n C hfr hlo hFn hP h H locs L cells slots hH hS hL hk hn
  obtain ⟨hx, hb, hml, hown, hts, hIn, hst, hlk, htb⟩ := C
  rcases st with _ | ⟨v, st⟩
  · exact False.elim h
  rcases st with _ | ⟨w, st⟩
  rotate_left
  · cases v <;> exact False.elim h
  cases v <;> try (simp only [oIr, iR] at h; done)
  rename_i x
  obtain ⟨hn0, h⟩ := h
  obtain ⟨rfl, hret, hnm⟩ := hFn
  refine W.widen (k := R.cells) (n := R.slots) (by omega) (by omega) (vx_ret ?_)
  exact W.zret hx hb hret hn0 (fun t ht hW => ⟨⟨_, ah, rfl, h, by rw [ht]; exact hH⟩, hS.F ht⟩) hS.2.2 hd hlk

theorem sn_lreturn {l : Launch} {D : va_G} {dA : Nat → ClassId} {sz0 : Nat} {κ : Nat → Nat} {cc : ByteArray} {own : String} {nL : Nat} {hh : List (Nat × Nat × Nat × Nat)} {fr lo : Nat} {pc : Nat} {nm : String} (hd : decode cc pc = .ok (.lreturn, 1)) : xSnd l D dA sz0 κ cc own nL hh fr lo (xFm D dA sz0 (some .long) nm) pc (oLr) := by
  intro p e R s m args below meth c Q Rr P ls st ah k n C hfr hlo hFn hP h H locs L cells slots hH hS hL hk hn
  obtain ⟨hx, hb, hml, hown, hts, hIn, hst, hlk, htb⟩ := C
  rcases st with _ | ⟨v, st⟩
  · exact False.elim h
  rcases st with _ | ⟨w, st⟩
  rotate_left
  · cases v <;> exact False.elim h
  cases v <;> try (simp only [oLr, iR] at h; done)
  rename_i x
  obtain ⟨-, h⟩ := h
  obtain ⟨rfl, hret, hnm⟩ := hFn
  refine W.widen (k := R.cells) (n := R.slots) (by omega) (by omega) (vx_ret ?_)
  exact W.lret hx hb hret (fun t ht hW => ⟨⟨_, ah, rfl, h, by rw [ht]; exact hH⟩, hS.F ht⟩) hS.2.2 hd hlk

theorem sn_freturn {l : Launch} {D : va_G} {dA : Nat → ClassId} {sz0 : Nat} {κ : Nat → Nat} {cc : ByteArray} {own : String} {nL : Nat} {hh : List (Nat × Nat × Nat × Nat)} {fr lo : Nat} {pc : Nat} {nm : String} (hd : decode cc pc = .ok (.freturn, 1)) : xSnd l D dA sz0 κ cc own nL hh fr lo (xFm D dA sz0 (some .float) nm) pc (oFr) := by
  intro p e R s m args below meth c Q Rr P ls st ah k n C hfr hlo hFn hP h H locs L cells slots hH hS hL hk hn
  obtain ⟨hx, hb, hml, hown, hts, hIn, hst, hlk, htb⟩ := C
  rcases st with _ | ⟨v, st⟩
  · exact False.elim h
  rcases st with _ | ⟨w, st⟩
  rotate_left
  · cases v <;> exact False.elim h
  cases v <;> try (simp only [oFr, iR] at h; done)
  rename_i x
  obtain ⟨-, h⟩ := h
  obtain ⟨rfl, hret, hnm⟩ := hFn
  refine W.widen (k := R.cells) (n := R.slots) (by omega) (by omega) (vx_ret ?_)
  exact W.fret hx hb hret (fun t ht hW => ⟨⟨_, ah, rfl, h, by rw [ht]; exact hH⟩, hS.F ht⟩) hS.2.2 hd hlk

theorem sn_areturn {l : Launch} {D : va_G} {dA : Nat → ClassId} {sz0 : Nat} {κ : Nat → Nat} {cc : ByteArray} {own : String} {nL : Nat} {hh : List (Nat × Nat × Nat × Nat)} {fr lo : Nat} {pc : Nat} {ty : FieldType} {nm : String} (hty : (∃ n, ty = .object n) ∨ ∃ t, ty = .array t) (hd : decode cc pc = .ok (.areturn, 1)) : xSnd l D dA sz0 κ cc own nL hh fr lo (xFm D dA sz0 (some ty) nm) pc (oAr) := by
  intro p e R s m args below meth c Q Rr P ls st ah k n C hfr hlo hFn hP h H locs L cells slots hH hS hL hk hn
  obtain ⟨hx, hb, hml, hown, hts, hIn, hst, hlk, htb⟩ := C
  rcases st with _ | ⟨v, st⟩
  · exact False.elim h
  rcases st with _ | ⟨w, st⟩
  rotate_left
  · cases v <;> exact False.elim h
  cases v <;> try (simp only [oAr, iR] at h; done)
  · obtain ⟨-, h⟩ := h
    obtain ⟨rfl, hret, hnm⟩ := hFn
    refine W.widen (k := R.cells) (n := R.slots) (by omega) (by omega) (vx_ret ?_)
    exact W.aret hx hb hret hty (Or.inl rfl) (fun t ht hW => ⟨⟨_, ah, rfl, h, by rw [ht]; exact hH⟩, hS.F ht⟩) hS.2.2 hd hlk
  · obtain ⟨-, h⟩ := h
    obtain ⟨rfl, hret, hnm⟩ := hFn
    refine W.widen (k := R.cells) (n := R.slots) (by omega) (by omega) (vx_ret ?_)
    exact W.aret hx hb hret hty (Or.inr ⟨_, rfl⟩) (fun t ht hW => ⟨⟨_, ah, rfl, h, by rw [ht]; exact hH⟩, hS.F ht⟩) hS.2.2 hd hlk

theorem sn_return {l : Launch} {D : va_G} {dA : Nat → ClassId} {sz0 : Nat} {κ : Nat → Nat} {cc : ByteArray} {own : String} {nL : Nat} {hh : List (Nat × Nat × Nat × Nat)} {fr lo : Nat} {pc : Nat} {nm : String} (hd : decode cc pc = .ok (.return_, 1)) : xSnd l D dA sz0 κ cc own nL hh fr lo (xFm D dA sz0 none nm) pc (oVr) := by
  intro p e R s m args below meth c Q Rr P ls st ah k n C hfr hlo hFn hP h H locs L cells slots hH hS hL hk hn
  obtain ⟨hx, hb, hml, hown, hts, hIn, hst, hlk, htb⟩ := C
  rcases st with _ | ⟨v, st⟩
  rotate_left
  · exact False.elim h
  obtain ⟨-, h⟩ := h
  obtain ⟨rfl, hret, hnm⟩ := hFn
  refine W.widen (k := R.cells) (n := R.slots) (by omega) (by omega) (vx_ret ?_)
  exact W.vret hx hb hret (fun t ht hW => ⟨⟨_, ah, rfl, h, by rw [ht]; exact hH⟩, hS.F ht⟩) hS.2.2 hd hlk

theorem sn_throw {l : Launch} {D : va_G} {dA : Nat → ClassId} {sz0 : Nat} {κ : Nat → Nat} {cc : ByteArray} {own : String} {nL : Nat} {hh : List (Nat × Nat × Nat × Nat)} {fr lo : Nat} {pc : Nat} {nm text : String} {ret : Option FieldType} {ik is ic E : Nat} (hE : E < 3) (howS : own = "Stuccohand") (hh0 : hh = []) (hck : Cond.classLink own ik (xEx E) ∈ xWds) (hi9 : Cond.initialized (xEx E) ∈ xWds) (hmsg : (is, text) ∈ xMsgs) (hat1 : ∀ w ∈ (vx_atS own ic (xEx E) ["java/lang/RuntimeException", "java/lang/Exception"]).filter goodWord, w ∈ lw_tbl) (hat2 : ∀ w ∈ (vx_atS own ic (xEx E) ["java/lang/RuntimeException", "java/lang/Exception"]).filter (fun w => !goodWord w), w ∈ xBad E) (hgood : ∀ w ∈ Cond.classLink own ik (xEx E) :: Cond.initialized (xEx E) :: vx_atS own ic (xEx E) ["java/lang/RuntimeException", "java/lang/Exception"], vx_ot w = true) (hfr1 : 6 ≤ fr) (hlo1 : 90 ≤ lo) (d0 : decode cc pc = .ok (.new ik, 3)) (d3 : decode cc (pc + 3) = .ok (.dup, 1)) (d4 : decode cc (pc + 4) = .ok (.ldc is, 2)) (d6 : decode cc (pc + 6) = .ok (.invokespecial ic, 3)) (d9 : decode cc (pc + 9) = .ok (.athrow, 1)) : xSnd l D dA sz0 κ cc own nL hh fr lo (xFm D dA sz0 ret nm) pc (iX E) := by
  intro p e R s m args below meth c Q Rr P ls st ah k n C hfr hlo hFn hP h H locs L cells slots hH hS hL hk hn
  obtain ⟨hx, hb, hml, hown, hts, hIn, hst, hlk, htb⟩ := C
  obtain ⟨⟨rfl, hk1, hn1⟩, h⟩ := h
  obtain ⟨rfl, hret, hnm⟩ := hFn
  obtain ⟨sa, hstr⟩ := hIn.2.2.2.2.2.1 _ hmsg
  rw [← howS] at hstr
  have hcast : va_Nw (.castable (xEx E) (xEx E)) s := hIn.2.2.2.1 _ (xEx_cast hE)
  have hat : ∀ w ∈ vx_atS own ic (xEx E) ["java/lang/RuntimeException", "java/lang/Exception"], w.before args s = true := vx_hat (fun w hw => hts w (xWds_in (hat1 w hw) (List.mem_filter.mp hw).2)) hat2 (vx_c (va_Nw.use rfl hcast) (vx_c (va_Nw.use rfl (hIn.2.2.2.2.2.2.2.2.2.2 _ (by decide +kernel))) (vx_c (va_Nw.use rfl (hIn.2.2.2.2.2.2.2.2.2.2 _ (by decide +kernel))) (vx_c (va_Nw.use rfl (hIn.2.2.2.2.2.2.2.2.2.2 _ (by decide +kernel))) vx_n))))
  dsimp only at hk hn hk1 hn1
  refine vx_throwS hx hb hst hown (xEx_fit E) xNames_fit (hts _ hck) (hts _ hi9) hstr hat hgood hIn.2.2.1.2.2.2.2.2.2.2.2.2.2.2.2.2.2.2.2.1 hIn.2.2.1.2.2.2.2.2.2.2.2.2.2.2.2.2.2.2.2.2 hS (hL.1.trans hml.symm) d0 d3 d4 d6 d9 (by rw [htb, hh0]; exact fun _ hx => nomatch hx) ?_ ?_ (by omega) (by omega) hlk (fun t hal hsz hq => ?_) hS.2.2 (by omega) (by omega)
  · show 2 + 3 < R.frames
    omega
  · show 0 + (13 * (2 + 1) + 43) ≤ R.locals
    omega
  · exact ⟨⟨E, ah, rfl, hE, h, xHR_ext hH hsz hq⟩, Nat.le_trans hS.1 hsz, fun q h1 h2 => (hq q (Nat.lt_of_lt_of_le h1 hS.1)).trans (hS.2.1 q h1 h2)⟩

theorem sn_throwW {l : Launch} {D : va_G} {dA : Nat → ClassId} {sz0 : Nat} {κ : Nat → Nat} {cc : ByteArray} {own : String} {nL : Nat} {hh : List (Nat × Nat × Nat × Nat)} {fr lo : Nat} {pc : Nat} {nm text : String} {ret : Option FieldType} {ik is ic E : Nat} (hE : E < 3) (howS : own = "Stuccohand") (hh0 : hh = []) (hck : Cond.classLink own ik (xEx E) ∈ xWds) (hi9 : Cond.initialized (xEx E) ∈ xWds) (hmsg : (is, text) ∈ xMsgs) (hat1 : ∀ w ∈ (vx_atS own ic (xEx E) ["java/lang/RuntimeException", "java/lang/Exception"]).filter goodWord, w ∈ lw_tbl) (hat2 : ∀ w ∈ (vx_atS own ic (xEx E) ["java/lang/RuntimeException", "java/lang/Exception"]).filter (fun w => !goodWord w), w ∈ xBad E) (hgood : ∀ w ∈ Cond.classLink own ik (xEx E) :: Cond.initialized (xEx E) :: vx_atS own ic (xEx E) ["java/lang/RuntimeException", "java/lang/Exception"], vx_ot w = true) (hfr1 : 6 ≤ fr) (hlo1 : 90 ≤ lo) (d0 : decode cc pc = .ok (.new ik, 3)) (d3 : decode cc (pc + 3) = .ok (.dup, 1)) (d4 : decode cc (pc + 4) = .ok (.ldc_w is, 3)) (d6 : decode cc (pc + 7) = .ok (.invokespecial ic, 3)) (d9 : decode cc (pc + 10) = .ok (.athrow, 1)) : xSnd l D dA sz0 κ cc own nL hh fr lo (xFm D dA sz0 ret nm) pc (iX E) := by
  intro p e R s m args below meth c Q Rr P ls st ah k n C hfr hlo hFn hP h H locs L cells slots hH hS hL hk hn
  obtain ⟨hx, hb, hml, hown, hts, hIn, hst, hlk, htb⟩ := C
  obtain ⟨⟨rfl, hk1, hn1⟩, h⟩ := h
  obtain ⟨rfl, hret, hnm⟩ := hFn
  obtain ⟨sa, hstr⟩ := hIn.2.2.2.2.2.1 _ hmsg
  rw [← howS] at hstr
  have hcast : va_Nw (.castable (xEx E) (xEx E)) s := hIn.2.2.2.1 _ (xEx_cast hE)
  have hat : ∀ w ∈ vx_atS own ic (xEx E) ["java/lang/RuntimeException", "java/lang/Exception"], w.before args s = true := vx_hat (fun w hw => hts w (xWds_in (hat1 w hw) (List.mem_filter.mp hw).2)) hat2 (vx_c (va_Nw.use rfl hcast) (vx_c (va_Nw.use rfl (hIn.2.2.2.2.2.2.2.2.2.2 _ (by decide +kernel))) (vx_c (va_Nw.use rfl (hIn.2.2.2.2.2.2.2.2.2.2 _ (by decide +kernel))) (vx_c (va_Nw.use rfl (hIn.2.2.2.2.2.2.2.2.2.2 _ (by decide +kernel))) vx_n))))
  dsimp only at hk hn hk1 hn1
  refine vx_throwSW hx hb hst hown (xEx_fit E) xNames_fit (hts _ hck) (hts _ hi9) hstr hat hgood hIn.2.2.1.2.2.2.2.2.2.2.2.2.2.2.2.2.2.2.2.1 hIn.2.2.1.2.2.2.2.2.2.2.2.2.2.2.2.2.2.2.2.2 hS (hL.1.trans hml.symm) d0 d3 d4 d6 d9 (by rw [htb, hh0]; exact fun _ hx => nomatch hx) ?_ ?_ (by omega) (by omega) hlk (fun t hal hsz hq => ?_) hS.2.2 (by omega) (by omega)
  · show 2 + 3 < R.frames
    omega
  · show 0 + (13 * (2 + 1) + 43) ≤ R.locals
    omega
  · exact ⟨⟨E, ah, rfl, hE, h, xHR_ext hH hsz hq⟩, Nat.le_trans hS.1 hsz, fun q h1 h2 => (hq q (Nat.lt_of_lt_of_le h1 hS.1)).trans (hS.2.1 q h1 h2)⟩

