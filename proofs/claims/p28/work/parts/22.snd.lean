/-! each instruction's pure form is what the machine does there (printed by wip/gen/gen22.py) -/
theorem xLR_s1 {L : Array Slot} {nL i : Nat} {ls : xL} {v : Value} (h : lv_has L nL ((i, v) :: (xas ls).filter (fun q => !(q.1 == i) && !(q.1 + 1 == i && q.2.category == 2)))) : xLR L nL (xs1 ls i v) := by
  refine ⟨h.1, h.2.1, fun q hq => h.2.2 q ?_⟩
  obtain ⟨j, w⟩ := q
  rcases xs1_get (xas_mem.mp hq) with ⟨rfl, rfl⟩ | ⟨h1, h2, h3⟩
  · exact List.mem_cons_self
  · refine List.mem_cons_of_mem _ (List.mem_filter.mpr ⟨xas_mem.mpr h2, ?_⟩)
    have e1 : (j == i) = false := by simp [h1]
    by_cases e : j + 1 = i
    · have := h3 e
      simp [e1, this]
    · simp [e1, e]
theorem xLR_s2 {L : Array Slot} {nL i : Nat} {ls : xL} {v : Value} (h : lv_has L nL ((i, v) :: (xas ls).filter (fun q => !(q.1 == i) && (!(q.1 == i + 1) && !(q.1 + 1 == i && q.2.category == 2))))) : xLR L nL (xs2 ls i v) := by
  refine ⟨h.1, h.2.1, fun q hq => h.2.2 q ?_⟩
  obtain ⟨j, w⟩ := q
  rcases xs2_get (xas_mem.mp hq) with ⟨rfl, rfl⟩ | ⟨h1, h1', h2, h3⟩
  · exact List.mem_cons_self
  · refine List.mem_cons_of_mem _ (List.mem_filter.mpr ⟨xas_mem.mpr h2, ?_⟩)
    have e1 : (j == i) = false := by simp [h1]
    have e2 : (j == i + 1) = false := by simp [h1']
    by_cases e : j + 1 = i
    · have := h3 e
      simp [e1, e2, this]
    · simp [e1, e2, e]
theorem sn_iconst {l : Launch} {D : va_G} {dA : Nat → ClassId} {sz0 : Nat} {κ : Nat → Nat} {cc : ByteArray} {own : String} {nL : Nat} {hh : List (Nat × Nat × Nat × Nat)} {fr lo : Nat} {Fn : xFn} {pc : Nat} {z : Int} {v : Int32} (hd : decode cc pc = .ok (.iconst z, 1)) (hv : Int32.ofInt z = v) : xSnd l D dA sz0 κ cc own nL hh fr lo Fn pc (oK (.int v) (pc + 1)) := by
  intro p e R s m args below meth c Q Rr P ls st ah k n C hfr hlo hFn hP h H locs L cells slots hH hS hL hk hn
  obtain ⟨hx, hb, hml, hown, hts, hIn, hst, hlk, htb⟩ := C
  exact lv_iconst hx hb hd hv (hP _ h H locs L cells slots hH hS hL hk hn)

theorem sn_bipush {l : Launch} {D : va_G} {dA : Nat → ClassId} {sz0 : Nat} {κ : Nat → Nat} {cc : ByteArray} {own : String} {nL : Nat} {hh : List (Nat × Nat × Nat × Nat)} {fr lo : Nat} {Fn : xFn} {pc : Nat} {z : Int} {v : Int32} (hd : decode cc pc = .ok (.bipush z, 2)) (hv : (Int8.ofInt z).toInt32 = v) : xSnd l D dA sz0 κ cc own nL hh fr lo Fn pc (oK (.int v) (pc + 2)) := by
  intro p e R s m args below meth c Q Rr P ls st ah k n C hfr hlo hFn hP h H locs L cells slots hH hS hL hk hn
  obtain ⟨hx, hb, hml, hown, hts, hIn, hst, hlk, htb⟩ := C
  exact lv_bipush hx hb hd hv (hP _ h H locs L cells slots hH hS hL hk hn)

theorem sn_sipush {l : Launch} {D : va_G} {dA : Nat → ClassId} {sz0 : Nat} {κ : Nat → Nat} {cc : ByteArray} {own : String} {nL : Nat} {hh : List (Nat × Nat × Nat × Nat)} {fr lo : Nat} {Fn : xFn} {pc : Nat} {z : Int} {v : Int32} (hd : decode cc pc = .ok (.sipush z, 3)) (hv : (Int16.ofInt z).toInt32 = v) : xSnd l D dA sz0 κ cc own nL hh fr lo Fn pc (oK (.int v) (pc + 3)) := by
  intro p e R s m args below meth c Q Rr P ls st ah k n C hfr hlo hFn hP h H locs L cells slots hH hS hL hk hn
  obtain ⟨hx, hb, hml, hown, hts, hIn, hst, hlk, htb⟩ := C
  exact lv_sipush hx hb hd hv (hP _ h H locs L cells slots hH hS hL hk hn)

theorem sn_lconst {l : Launch} {D : va_G} {dA : Nat → ClassId} {sz0 : Nat} {κ : Nat → Nat} {cc : ByteArray} {own : String} {nL : Nat} {hh : List (Nat × Nat × Nat × Nat)} {fr lo : Nat} {Fn : xFn} {pc : Nat} {z : Fin 2} {v : Int64} (hd : decode cc pc = .ok (.lconst z, 1)) (hv : Int64.ofNat (z : Nat) = v) : xSnd l D dA sz0 κ cc own nL hh fr lo Fn pc (oK (.long v) (pc + 1)) := by
  intro p e R s m args below meth c Q Rr P ls st ah k n C hfr hlo hFn hP h H locs L cells slots hH hS hL hk hn
  obtain ⟨hx, hb, hml, hown, hts, hIn, hst, hlk, htb⟩ := C
  exact lv_lconst hx hb hd hv (hP _ h H locs L cells slots hH hS hL hk hn)

theorem sn_fconst0 {l : Launch} {D : va_G} {dA : Nat → ClassId} {sz0 : Nat} {κ : Nat → Nat} {cc : ByteArray} {own : String} {nL : Nat} {hh : List (Nat × Nat × Nat × Nat)} {fr lo : Nat} {Fn : xFn} {pc : Nat} (hd : decode cc pc = .ok (.fconst 0, 1)) : xSnd l D dA sz0 κ cc own nL hh fr lo Fn pc (oK (.float FP.fconst0) (pc + 1)) := by
  intro p e R s m args below meth c Q Rr P ls st ah k n C hfr hlo hFn hP h H locs L cells slots hH hS hL hk hn
  obtain ⟨hx, hb, hml, hown, hts, hIn, hst, hlk, htb⟩ := C
  exact lv_fconst0 hx hb hd (hP _ h H locs L cells slots hH hS hL hk hn)

theorem sn_null {l : Launch} {D : va_G} {dA : Nat → ClassId} {sz0 : Nat} {κ : Nat → Nat} {cc : ByteArray} {own : String} {nL : Nat} {hh : List (Nat × Nat × Nat × Nat)} {fr lo : Nat} {Fn : xFn} {pc : Nat} (hd : decode cc pc = .ok (.aconst_null, 1)) : xSnd l D dA sz0 κ cc own nL hh fr lo Fn pc (oK .null (pc + 1)) := by
  intro p e R s m args below meth c Q Rr P ls st ah k n C hfr hlo hFn hP h H locs L cells slots hH hS hL hk hn
  obtain ⟨hx, hb, hml, hown, hts, hIn, hst, hlk, htb⟩ := C
  exact lv_null hx hb hd (hP _ h H locs L cells slots hH hS hL hk hn)

theorem sn_ldc {l : Launch} {D : va_G} {dA : Nat → ClassId} {sz0 : Nat} {κ : Nat → Nat} {cc : ByteArray} {own : String} {nL : Nat} {hh : List (Nat × Nat × Nat × Nat)} {fr lo : Nat} {Fn : xFn} {pc : Nat} {i : Nat} {v : Int32} (hw : Cond.constant own i v ∈ xWds) (hd : decode cc pc = .ok (.ldc i, 2)) : xSnd l D dA sz0 κ cc own nL hh fr lo Fn pc (oK (.int v) (pc + 2)) := by
  intro p e R s m args below meth c Q Rr P ls st ah k n C hfr hlo hFn hP h H locs L cells slots hH hS hL hk hn
  obtain ⟨hx, hb, hml, hown, hts, hIn, hst, hlk, htb⟩ := C
  exact lv_ldc hx hb hown (hts _ hw) hd (hP _ h H locs L cells slots hH hS hL hk hn)

theorem sn_ldcw {l : Launch} {D : va_G} {dA : Nat → ClassId} {sz0 : Nat} {κ : Nat → Nat} {cc : ByteArray} {own : String} {nL : Nat} {hh : List (Nat × Nat × Nat × Nat)} {fr lo : Nat} {Fn : xFn} {pc : Nat} {i : Nat} {v : Int32} (hw : Cond.constant own i v ∈ xWds) (hd : decode cc pc = .ok (.ldc_w i, 3)) : xSnd l D dA sz0 κ cc own nL hh fr lo Fn pc (oK (.int v) (pc + 3)) := by
  intro p e R s m args below meth c Q Rr P ls st ah k n C hfr hlo hFn hP h H locs L cells slots hH hS hL hk hn
  obtain ⟨hx, hb, hml, hown, hts, hIn, hst, hlk, htb⟩ := C
  exact lv_ldcw hx hb hown (hts _ hw) hd (hP _ h H locs L cells slots hH hS hL hk hn)

theorem sn_ldcf {l : Launch} {D : va_G} {dA : Nat → ClassId} {sz0 : Nat} {κ : Nat → Nat} {cc : ByteArray} {own : String} {nL : Nat} {hh : List (Nat × Nat × Nat × Nat)} {fr lo : Nat} {Fn : xFn} {pc : Nat} {i : Nat} {v : UInt32} (hw : Cond.constantFloat own i v ∈ xWds) (hd : decode cc pc = .ok (.ldc i, 2)) : xSnd l D dA sz0 κ cc own nL hh fr lo Fn pc (oK (.float v) (pc + 2)) := by
  intro p e R s m args below meth c Q Rr P ls st ah k n C hfr hlo hFn hP h H locs L cells slots hH hS hL hk hn
  obtain ⟨hx, hb, hml, hown, hts, hIn, hst, hlk, htb⟩ := C
  exact lv_ldcf hx hb hown (hts _ hw) hd (hP _ h H locs L cells slots hH hS hL hk hn)

theorem sn_ldc2 {l : Launch} {D : va_G} {dA : Nat → ClassId} {sz0 : Nat} {κ : Nat → Nat} {cc : ByteArray} {own : String} {nL : Nat} {hh : List (Nat × Nat × Nat × Nat)} {fr lo : Nat} {Fn : xFn} {pc : Nat} {i : Nat} {v : Int64} (hw : Cond.constantLong own i v ∈ xWds) (hd : decode cc pc = .ok (.ldc2_w i, 3)) : xSnd l D dA sz0 κ cc own nL hh fr lo Fn pc (oK (.long v) (pc + 3)) := by
  intro p e R s m args below meth c Q Rr P ls st ah k n C hfr hlo hFn hP h H locs L cells slots hH hS hL hk hn
  obtain ⟨hx, hb, hml, hown, hts, hIn, hst, hlk, htb⟩ := C
  exact lv_ldc2 hx hb hown (hts _ hw) hd (hP _ h H locs L cells slots hH hS hL hk hn)

theorem sn_iload {l : Launch} {D : va_G} {dA : Nat → ClassId} {sz0 : Nat} {κ : Nat → Nat} {cc : ByteArray} {own : String} {nL : Nat} {hh : List (Nat × Nat × Nat × Nat)} {fr lo : Nat} {Fn : xFn} {pc : Nat} {i : Nat} (hd : decode cc pc = .ok (.iload i, 2)) : xSnd l D dA sz0 κ cc own nL hh fr lo Fn pc (oIl i (pc + 2)) := by
  intro p e R s m args below meth c Q Rr P ls st ah k n C hfr hlo hFn hP h H locs L cells slots hH hS hL hk hn
  obtain ⟨hx, hb, hml, hown, hts, hIn, hst, hlk, htb⟩ := C
  cases hg : xg ls i with
  | none => simp [oIl, iS, hg] at h
  | some v =>
    cases v <;> simp only [oIl, iS, hg] at h
    exact lv_iload hx hb hd (xLR_at hL hg) (hP _ h H locs L cells slots hH hS hL hk hn)

theorem sn_iload_n {l : Launch} {D : va_G} {dA : Nat → ClassId} {sz0 : Nat} {κ : Nat → Nat} {cc : ByteArray} {own : String} {nL : Nat} {hh : List (Nat × Nat × Nat × Nat)} {fr lo : Nat} {Fn : xFn} {pc : Nat} {j : Fin 4} {i : Nat} (hd : decode cc pc = .ok (.iload_n j, 1)) (hj : (j : Nat) = i) : xSnd l D dA sz0 κ cc own nL hh fr lo Fn pc (oIl i (pc + 1)) := by
  intro p e R s m args below meth c Q Rr P ls st ah k n C hfr hlo hFn hP h H locs L cells slots hH hS hL hk hn
  obtain ⟨hx, hb, hml, hown, hts, hIn, hst, hlk, htb⟩ := C
  cases hg : xg ls i with
  | none => simp [oIl, iS, hg] at h
  | some v =>
    cases v <;> simp only [oIl, iS, hg] at h
    exact lv_iload_n hx hb hd hj (xLR_at hL hg) (hP _ h H locs L cells slots hH hS hL hk hn)

theorem sn_lload {l : Launch} {D : va_G} {dA : Nat → ClassId} {sz0 : Nat} {κ : Nat → Nat} {cc : ByteArray} {own : String} {nL : Nat} {hh : List (Nat × Nat × Nat × Nat)} {fr lo : Nat} {Fn : xFn} {pc : Nat} {i : Nat} (hd : decode cc pc = .ok (.lload i, 2)) : xSnd l D dA sz0 κ cc own nL hh fr lo Fn pc (oLl i (pc + 2)) := by
  intro p e R s m args below meth c Q Rr P ls st ah k n C hfr hlo hFn hP h H locs L cells slots hH hS hL hk hn
  obtain ⟨hx, hb, hml, hown, hts, hIn, hst, hlk, htb⟩ := C
  cases hg : xg ls i with
  | none => simp [oLl, iS, hg] at h
  | some v =>
    cases v <;> simp only [oLl, iS, hg] at h
    exact lv_lload hx hb hd (xLR_at hL hg) (hP _ h H locs L cells slots hH hS hL hk hn)

theorem sn_lload_n {l : Launch} {D : va_G} {dA : Nat → ClassId} {sz0 : Nat} {κ : Nat → Nat} {cc : ByteArray} {own : String} {nL : Nat} {hh : List (Nat × Nat × Nat × Nat)} {fr lo : Nat} {Fn : xFn} {pc : Nat} {j : Fin 4} {i : Nat} (hd : decode cc pc = .ok (.lload_n j, 1)) (hj : (j : Nat) = i) : xSnd l D dA sz0 κ cc own nL hh fr lo Fn pc (oLl i (pc + 1)) := by
  intro p e R s m args below meth c Q Rr P ls st ah k n C hfr hlo hFn hP h H locs L cells slots hH hS hL hk hn
  obtain ⟨hx, hb, hml, hown, hts, hIn, hst, hlk, htb⟩ := C
  cases hg : xg ls i with
  | none => simp [oLl, iS, hg] at h
  | some v =>
    cases v <;> simp only [oLl, iS, hg] at h
    exact lv_lload_n hx hb hd hj (xLR_at hL hg) (hP _ h H locs L cells slots hH hS hL hk hn)

theorem sn_fload {l : Launch} {D : va_G} {dA : Nat → ClassId} {sz0 : Nat} {κ : Nat → Nat} {cc : ByteArray} {own : String} {nL : Nat} {hh : List (Nat × Nat × Nat × Nat)} {fr lo : Nat} {Fn : xFn} {pc : Nat} {i : Nat} (hd : decode cc pc = .ok (.fload i, 2)) : xSnd l D dA sz0 κ cc own nL hh fr lo Fn pc (oFl i (pc + 2)) := by
  intro p e R s m args below meth c Q Rr P ls st ah k n C hfr hlo hFn hP h H locs L cells slots hH hS hL hk hn
  obtain ⟨hx, hb, hml, hown, hts, hIn, hst, hlk, htb⟩ := C
  cases hg : xg ls i with
  | none => simp [oFl, iS, hg] at h
  | some v =>
    cases v <;> simp only [oFl, iS, hg] at h
    exact lv_fload hx hb hd (xLR_at hL hg) (hP _ h H locs L cells slots hH hS hL hk hn)

theorem sn_fload_n {l : Launch} {D : va_G} {dA : Nat → ClassId} {sz0 : Nat} {κ : Nat → Nat} {cc : ByteArray} {own : String} {nL : Nat} {hh : List (Nat × Nat × Nat × Nat)} {fr lo : Nat} {Fn : xFn} {pc : Nat} {j : Fin 4} {i : Nat} (hd : decode cc pc = .ok (.fload_n j, 1)) (hj : (j : Nat) = i) : xSnd l D dA sz0 κ cc own nL hh fr lo Fn pc (oFl i (pc + 1)) := by
  intro p e R s m args below meth c Q Rr P ls st ah k n C hfr hlo hFn hP h H locs L cells slots hH hS hL hk hn
  obtain ⟨hx, hb, hml, hown, hts, hIn, hst, hlk, htb⟩ := C
  cases hg : xg ls i with
  | none => simp [oFl, iS, hg] at h
  | some v =>
    cases v <;> simp only [oFl, iS, hg] at h
    exact lv_fload_n hx hb hd hj (xLR_at hL hg) (hP _ h H locs L cells slots hH hS hL hk hn)

theorem sn_aload {l : Launch} {D : va_G} {dA : Nat → ClassId} {sz0 : Nat} {κ : Nat → Nat} {cc : ByteArray} {own : String} {nL : Nat} {hh : List (Nat × Nat × Nat × Nat)} {fr lo : Nat} {Fn : xFn} {pc : Nat} {i : Nat} (hd : decode cc pc = .ok (.aload i, 2)) : xSnd l D dA sz0 κ cc own nL hh fr lo Fn pc (oAl i (pc + 2)) := by
  intro p e R s m args below meth c Q Rr P ls st ah k n C hfr hlo hFn hP h H locs L cells slots hH hS hL hk hn
  obtain ⟨hx, hb, hml, hown, hts, hIn, hst, hlk, htb⟩ := C
  cases hg : xg ls i with
  | none => simp [oAl, iS, hg] at h
  | some v =>
    cases v <;> simp only [oAl, iS, hg] at h
    · exact lv_aloadN hx hb hd (xLR_at hL hg) (hP _ h H locs L cells slots hH hS hL hk hn)
    · exact lv_aload hx hb hd (xLR_at hL hg) (hP _ h H locs L cells slots hH hS hL hk hn)

theorem sn_aload_n {l : Launch} {D : va_G} {dA : Nat → ClassId} {sz0 : Nat} {κ : Nat → Nat} {cc : ByteArray} {own : String} {nL : Nat} {hh : List (Nat × Nat × Nat × Nat)} {fr lo : Nat} {Fn : xFn} {pc : Nat} {j : Fin 4} {i : Nat} (hd : decode cc pc = .ok (.aload_n j, 1)) (hj : (j : Nat) = i) : xSnd l D dA sz0 κ cc own nL hh fr lo Fn pc (oAl i (pc + 1)) := by
  intro p e R s m args below meth c Q Rr P ls st ah k n C hfr hlo hFn hP h H locs L cells slots hH hS hL hk hn
  obtain ⟨hx, hb, hml, hown, hts, hIn, hst, hlk, htb⟩ := C
  cases hg : xg ls i with
  | none => simp [oAl, iS, hg] at h
  | some v =>
    cases v <;> simp only [oAl, iS, hg] at h
    · exact lv_aload_nN hx hb hd hj (xLR_at hL hg) (hP _ h H locs L cells slots hH hS hL hk hn)
    · exact lv_aload_n hx hb hd hj (xLR_at hL hg) (hP _ h H locs L cells slots hH hS hL hk hn)

theorem sn_istore {l : Launch} {D : va_G} {dA : Nat → ClassId} {sz0 : Nat} {κ : Nat → Nat} {cc : ByteArray} {own : String} {nL : Nat} {hh : List (Nat × Nat × Nat × Nat)} {fr lo : Nat} {Fn : xFn} {pc : Nat} {i : Nat} (hd : decode cc pc = .ok (.istore i, 2)) (hi : i < nL) : xSnd l D dA sz0 κ cc own nL hh fr lo Fn pc (oIs i (pc + 2)) := by
  intro p e R s m args below meth c Q Rr P ls st ah k n C hfr hlo hFn hP h H locs L cells slots hH hS hL hk hn
  obtain ⟨hx, hb, hml, hown, hts, hIn, hst, hlk, htb⟩ := C
  rcases st with _ | ⟨v, st⟩
  · exact False.elim h
  cases v <;> try (simp only [oIs, iS] at h; done)
  rename_i x
  exact lv_istore hx hb hd hL hi rfl (fun L hL => hP _ h H locs L cells slots hH hS (xLR_s1 hL) hk hn)

theorem sn_istore_n {l : Launch} {D : va_G} {dA : Nat → ClassId} {sz0 : Nat} {κ : Nat → Nat} {cc : ByteArray} {own : String} {nL : Nat} {hh : List (Nat × Nat × Nat × Nat)} {fr lo : Nat} {Fn : xFn} {pc : Nat} {j : Fin 4} {i : Nat} (hd : decode cc pc = .ok (.istore_n j, 1)) (hj : (j : Nat) = i) (hi : i < nL) : xSnd l D dA sz0 κ cc own nL hh fr lo Fn pc (oIs i (pc + 1)) := by
  intro p e R s m args below meth c Q Rr P ls st ah k n C hfr hlo hFn hP h H locs L cells slots hH hS hL hk hn
  obtain ⟨hx, hb, hml, hown, hts, hIn, hst, hlk, htb⟩ := C
  rcases st with _ | ⟨v, st⟩
  · exact False.elim h
  cases v <;> try (simp only [oIs, iS] at h; done)
  rename_i x
  exact lv_istore_n hx hb hd hj hL hi rfl (fun L hL => hP _ h H locs L cells slots hH hS (xLR_s1 hL) hk hn)

theorem sn_fstore {l : Launch} {D : va_G} {dA : Nat → ClassId} {sz0 : Nat} {κ : Nat → Nat} {cc : ByteArray} {own : String} {nL : Nat} {hh : List (Nat × Nat × Nat × Nat)} {fr lo : Nat} {Fn : xFn} {pc : Nat} {i : Nat} (hd : decode cc pc = .ok (.fstore i, 2)) (hi : i < nL) : xSnd l D dA sz0 κ cc own nL hh fr lo Fn pc (oFs i (pc + 2)) := by
  intro p e R s m args below meth c Q Rr P ls st ah k n C hfr hlo hFn hP h H locs L cells slots hH hS hL hk hn
  obtain ⟨hx, hb, hml, hown, hts, hIn, hst, hlk, htb⟩ := C
  rcases st with _ | ⟨v, st⟩
  · exact False.elim h
  cases v <;> try (simp only [oFs, iS] at h; done)
  rename_i x
  exact lv_fstore hx hb hd hL hi rfl (fun L hL => hP _ h H locs L cells slots hH hS (xLR_s1 hL) hk hn)

theorem sn_fstore_n {l : Launch} {D : va_G} {dA : Nat → ClassId} {sz0 : Nat} {κ : Nat → Nat} {cc : ByteArray} {own : String} {nL : Nat} {hh : List (Nat × Nat × Nat × Nat)} {fr lo : Nat} {Fn : xFn} {pc : Nat} {j : Fin 4} {i : Nat} (hd : decode cc pc = .ok (.fstore_n j, 1)) (hj : (j : Nat) = i) (hi : i < nL) : xSnd l D dA sz0 κ cc own nL hh fr lo Fn pc (oFs i (pc + 1)) := by
  intro p e R s m args below meth c Q Rr P ls st ah k n C hfr hlo hFn hP h H locs L cells slots hH hS hL hk hn
  obtain ⟨hx, hb, hml, hown, hts, hIn, hst, hlk, htb⟩ := C
  rcases st with _ | ⟨v, st⟩
  · exact False.elim h
  cases v <;> try (simp only [oFs, iS] at h; done)
  rename_i x
  exact lv_fstore_n hx hb hd hj hL hi rfl (fun L hL => hP _ h H locs L cells slots hH hS (xLR_s1 hL) hk hn)

theorem sn_lstore {l : Launch} {D : va_G} {dA : Nat → ClassId} {sz0 : Nat} {κ : Nat → Nat} {cc : ByteArray} {own : String} {nL : Nat} {hh : List (Nat × Nat × Nat × Nat)} {fr lo : Nat} {Fn : xFn} {pc : Nat} {i : Nat} (hd : decode cc pc = .ok (.lstore i, 2)) (hi : i + 1 < nL) : xSnd l D dA sz0 κ cc own nL hh fr lo Fn pc (oLs i (pc + 2)) := by
  intro p e R s m args below meth c Q Rr P ls st ah k n C hfr hlo hFn hP h H locs L cells slots hH hS hL hk hn
  obtain ⟨hx, hb, hml, hown, hts, hIn, hst, hlk, htb⟩ := C
  rcases st with _ | ⟨v, st⟩
  · exact False.elim h
  cases v <;> try (simp only [oLs, iS] at h; done)
  rename_i x
  exact lv_lstore hx hb hd hL hi rfl (fun L hL => hP _ h H locs L cells slots hH hS (xLR_s2 hL) hk hn)

theorem sn_lstore_n {l : Launch} {D : va_G} {dA : Nat → ClassId} {sz0 : Nat} {κ : Nat → Nat} {cc : ByteArray} {own : String} {nL : Nat} {hh : List (Nat × Nat × Nat × Nat)} {fr lo : Nat} {Fn : xFn} {pc : Nat} {j : Fin 4} {i : Nat} (hd : decode cc pc = .ok (.lstore_n j, 1)) (hj : (j : Nat) = i) (hi : i + 1 < nL) : xSnd l D dA sz0 κ cc own nL hh fr lo Fn pc (oLs i (pc + 1)) := by
  intro p e R s m args below meth c Q Rr P ls st ah k n C hfr hlo hFn hP h H locs L cells slots hH hS hL hk hn
  obtain ⟨hx, hb, hml, hown, hts, hIn, hst, hlk, htb⟩ := C
  rcases st with _ | ⟨v, st⟩
  · exact False.elim h
  cases v <;> try (simp only [oLs, iS] at h; done)
  rename_i x
  exact lv_lstore_n hx hb hd hj hL hi rfl (fun L hL => hP _ h H locs L cells slots hH hS (xLR_s2 hL) hk hn)

theorem sn_astore {l : Launch} {D : va_G} {dA : Nat → ClassId} {sz0 : Nat} {κ : Nat → Nat} {cc : ByteArray} {own : String} {nL : Nat} {hh : List (Nat × Nat × Nat × Nat)} {fr lo : Nat} {Fn : xFn} {pc : Nat} {i : Nat} (hd : decode cc pc = .ok (.astore i, 2)) (hi : i < nL) : xSnd l D dA sz0 κ cc own nL hh fr lo Fn pc (oAs i (pc + 2)) := by
  intro p e R s m args below meth c Q Rr P ls st ah k n C hfr hlo hFn hP h H locs L cells slots hH hS hL hk hn
  obtain ⟨hx, hb, hml, hown, hts, hIn, hst, hlk, htb⟩ := C
  rcases st with _ | ⟨v, st⟩
  · exact False.elim h
  cases v <;> try (simp only [oAs, iS] at h; done)
  · exact lv_astoreN hx hb hd hL hi rfl (fun L hL => hP _ h H locs L cells slots hH hS (xLR_s1 hL) hk hn)
  · exact lv_astore hx hb hd hL hi rfl (fun L hL => hP _ h H locs L cells slots hH hS (xLR_s1 hL) hk hn)

theorem sn_astore_n {l : Launch} {D : va_G} {dA : Nat → ClassId} {sz0 : Nat} {κ : Nat → Nat} {cc : ByteArray} {own : String} {nL : Nat} {hh : List (Nat × Nat × Nat × Nat)} {fr lo : Nat} {Fn : xFn} {pc : Nat} {j : Fin 4} {i : Nat} (hd : decode cc pc = .ok (.astore_n j, 1)) (hj : (j : Nat) = i) (hi : i < nL) : xSnd l D dA sz0 κ cc own nL hh fr lo Fn pc (oAs i (pc + 1)) := by
  intro p e R s m args below meth c Q Rr P ls st ah k n C hfr hlo hFn hP h H locs L cells slots hH hS hL hk hn
  obtain ⟨hx, hb, hml, hown, hts, hIn, hst, hlk, htb⟩ := C
  rcases st with _ | ⟨v, st⟩
  · exact False.elim h
  cases v <;> try (simp only [oAs, iS] at h; done)
  · exact lv_astore_nN hx hb hd hj hL hi rfl (fun L hL => hP _ h H locs L cells slots hH hS (xLR_s1 hL) hk hn)
  · exact lv_astore_n hx hb hd hj hL hi rfl (fun L hL => hP _ h H locs L cells slots hH hS (xLR_s1 hL) hk hn)

theorem sn_iinc {l : Launch} {D : va_G} {dA : Nat → ClassId} {sz0 : Nat} {κ : Nat → Nat} {cc : ByteArray} {own : String} {nL : Nat} {hh : List (Nat × Nat × Nat × Nat)} {fr lo : Nat} {Fn : xFn} {pc : Nat} {i : Nat} {z : Int} {w : Int32} (hd : decode cc pc = .ok (.iinc i z, 3)) (hw : Int32.ofInt z = w) : xSnd l D dA sz0 κ cc own nL hh fr lo Fn pc (oInc i w (pc + 3)) := by
  intro p e R s m args below meth c Q Rr P ls st ah k n C hfr hlo hFn hP h H locs L cells slots hH hS hL hk hn
  obtain ⟨hx, hb, hml, hown, hts, hIn, hst, hlk, htb⟩ := C
  cases hg : xg ls i with
  | none => simp [oInc, iS, hg] at h
  | some v =>
    cases v <;> simp only [oInc, iS, hg] at h
    obtain ⟨j, hj⟩ := List.getElem?_of_mem (xas_mem.mpr hg)
    subst hw
    exact lv_iinc hx hb hd hL hj rfl (xLR_lt hL hg) rfl (fun L hL => hP _ h H locs L cells slots hH hS (xLR_s1 hL) hk hn)

theorem sn_iadd {l : Launch} {D : va_G} {dA : Nat → ClassId} {sz0 : Nat} {κ : Nat → Nat} {cc : ByteArray} {own : String} {nL : Nat} {hh : List (Nat × Nat × Nat × Nat)} {fr lo : Nat} {Fn : xFn} {pc : Nat} (hd : decode cc pc = .ok (.iadd, 1)) : xSnd l D dA sz0 κ cc own nL hh fr lo Fn pc (oII (fun x y => x + y) (pc + 1)) := by
  intro p e R s m args below meth c Q Rr P ls st ah k n C hfr hlo hFn hP h H locs L cells slots hH hS hL hk hn
  obtain ⟨hx, hb, hml, hown, hts, hIn, hst, hlk, htb⟩ := C
  rcases st with _ | ⟨v, st⟩
  · exact False.elim h
  cases v <;> try (simp only [oII, iS] at h; done)
  rename_i y
  rcases st with _ | ⟨v, st⟩
  · exact False.elim h
  cases v <;> try (simp only [oII, iS] at h; done)
  rename_i x
  exact lv_iadd hx hb hd (hP _ h H locs L cells slots hH hS hL hk hn)

theorem sn_isub {l : Launch} {D : va_G} {dA : Nat → ClassId} {sz0 : Nat} {κ : Nat → Nat} {cc : ByteArray} {own : String} {nL : Nat} {hh : List (Nat × Nat × Nat × Nat)} {fr lo : Nat} {Fn : xFn} {pc : Nat} (hd : decode cc pc = .ok (.isub, 1)) : xSnd l D dA sz0 κ cc own nL hh fr lo Fn pc (oII (fun x y => x - y) (pc + 1)) := by
  intro p e R s m args below meth c Q Rr P ls st ah k n C hfr hlo hFn hP h H locs L cells slots hH hS hL hk hn
  obtain ⟨hx, hb, hml, hown, hts, hIn, hst, hlk, htb⟩ := C
  rcases st with _ | ⟨v, st⟩
  · exact False.elim h
  cases v <;> try (simp only [oII, iS] at h; done)
  rename_i y
  rcases st with _ | ⟨v, st⟩
  · exact False.elim h
  cases v <;> try (simp only [oII, iS] at h; done)
  rename_i x
  exact lv_isub hx hb hd (hP _ h H locs L cells slots hH hS hL hk hn)

theorem sn_imul {l : Launch} {D : va_G} {dA : Nat → ClassId} {sz0 : Nat} {κ : Nat → Nat} {cc : ByteArray} {own : String} {nL : Nat} {hh : List (Nat × Nat × Nat × Nat)} {fr lo : Nat} {Fn : xFn} {pc : Nat} (hd : decode cc pc = .ok (.imul, 1)) : xSnd l D dA sz0 κ cc own nL hh fr lo Fn pc (oII (fun x y => x * y) (pc + 1)) := by
  intro p e R s m args below meth c Q Rr P ls st ah k n C hfr hlo hFn hP h H locs L cells slots hH hS hL hk hn
  obtain ⟨hx, hb, hml, hown, hts, hIn, hst, hlk, htb⟩ := C
  rcases st with _ | ⟨v, st⟩
  · exact False.elim h
  cases v <;> try (simp only [oII, iS] at h; done)
  rename_i y
  rcases st with _ | ⟨v, st⟩
  · exact False.elim h
  cases v <;> try (simp only [oII, iS] at h; done)
  rename_i x
  exact lv_imul hx hb hd (hP _ h H locs L cells slots hH hS hL hk hn)

theorem sn_iand {l : Launch} {D : va_G} {dA : Nat → ClassId} {sz0 : Nat} {κ : Nat → Nat} {cc : ByteArray} {own : String} {nL : Nat} {hh : List (Nat × Nat × Nat × Nat)} {fr lo : Nat} {Fn : xFn} {pc : Nat} (hd : decode cc pc = .ok (.iand, 1)) : xSnd l D dA sz0 κ cc own nL hh fr lo Fn pc (oII (fun x y => x &&& y) (pc + 1)) := by
  intro p e R s m args below meth c Q Rr P ls st ah k n C hfr hlo hFn hP h H locs L cells slots hH hS hL hk hn
  obtain ⟨hx, hb, hml, hown, hts, hIn, hst, hlk, htb⟩ := C
  rcases st with _ | ⟨v, st⟩
  · exact False.elim h
  cases v <;> try (simp only [oII, iS] at h; done)
  rename_i y
  rcases st with _ | ⟨v, st⟩
  · exact False.elim h
  cases v <;> try (simp only [oII, iS] at h; done)
  rename_i x
  exact lv_iand hx hb hd (hP _ h H locs L cells slots hH hS hL hk hn)

theorem sn_ior {l : Launch} {D : va_G} {dA : Nat → ClassId} {sz0 : Nat} {κ : Nat → Nat} {cc : ByteArray} {own : String} {nL : Nat} {hh : List (Nat × Nat × Nat × Nat)} {fr lo : Nat} {Fn : xFn} {pc : Nat} (hd : decode cc pc = .ok (.ior, 1)) : xSnd l D dA sz0 κ cc own nL hh fr lo Fn pc (oII (fun x y => x ||| y) (pc + 1)) := by
  intro p e R s m args below meth c Q Rr P ls st ah k n C hfr hlo hFn hP h H locs L cells slots hH hS hL hk hn
  obtain ⟨hx, hb, hml, hown, hts, hIn, hst, hlk, htb⟩ := C
  rcases st with _ | ⟨v, st⟩
  · exact False.elim h
  cases v <;> try (simp only [oII, iS] at h; done)
  rename_i y
  rcases st with _ | ⟨v, st⟩
  · exact False.elim h
  cases v <;> try (simp only [oII, iS] at h; done)
  rename_i x
  exact lv_ior hx hb hd (hP _ h H locs L cells slots hH hS hL hk hn)

theorem sn_ixor {l : Launch} {D : va_G} {dA : Nat → ClassId} {sz0 : Nat} {κ : Nat → Nat} {cc : ByteArray} {own : String} {nL : Nat} {hh : List (Nat × Nat × Nat × Nat)} {fr lo : Nat} {Fn : xFn} {pc : Nat} (hd : decode cc pc = .ok (.ixor, 1)) : xSnd l D dA sz0 κ cc own nL hh fr lo Fn pc (oII (fun x y => x ^^^ y) (pc + 1)) := by
  intro p e R s m args below meth c Q Rr P ls st ah k n C hfr hlo hFn hP h H locs L cells slots hH hS hL hk hn
  obtain ⟨hx, hb, hml, hown, hts, hIn, hst, hlk, htb⟩ := C
  rcases st with _ | ⟨v, st⟩
  · exact False.elim h
  cases v <;> try (simp only [oII, iS] at h; done)
  rename_i y
  rcases st with _ | ⟨v, st⟩
  · exact False.elim h
  cases v <;> try (simp only [oII, iS] at h; done)
  rename_i x
  exact lv_ixor hx hb hd (hP _ h H locs L cells slots hH hS hL hk hn)

theorem sn_ishl {l : Launch} {D : va_G} {dA : Nat → ClassId} {sz0 : Nat} {κ : Nat → Nat} {cc : ByteArray} {own : String} {nL : Nat} {hh : List (Nat × Nat × Nat × Nat)} {fr lo : Nat} {Fn : xFn} {pc : Nat} (hd : decode cc pc = .ok (.ishl, 1)) : xSnd l D dA sz0 κ cc own nL hh fr lo Fn pc (oII (fun x y => x <<< (y &&& 31)) (pc + 1)) := by
  intro p e R s m args below meth c Q Rr P ls st ah k n C hfr hlo hFn hP h H locs L cells slots hH hS hL hk hn
  obtain ⟨hx, hb, hml, hown, hts, hIn, hst, hlk, htb⟩ := C
  rcases st with _ | ⟨v, st⟩
  · exact False.elim h
  cases v <;> try (simp only [oII, iS] at h; done)
  rename_i y
  rcases st with _ | ⟨v, st⟩
  · exact False.elim h
  cases v <;> try (simp only [oII, iS] at h; done)
  rename_i x
  exact lv_ishl hx hb hd (hP _ h H locs L cells slots hH hS hL hk hn)

theorem sn_ishr {l : Launch} {D : va_G} {dA : Nat → ClassId} {sz0 : Nat} {κ : Nat → Nat} {cc : ByteArray} {own : String} {nL : Nat} {hh : List (Nat × Nat × Nat × Nat)} {fr lo : Nat} {Fn : xFn} {pc : Nat} (hd : decode cc pc = .ok (.ishr, 1)) : xSnd l D dA sz0 κ cc own nL hh fr lo Fn pc (oII (fun x y => x >>> (y &&& 31)) (pc + 1)) := by
  intro p e R s m args below meth c Q Rr P ls st ah k n C hfr hlo hFn hP h H locs L cells slots hH hS hL hk hn
  obtain ⟨hx, hb, hml, hown, hts, hIn, hst, hlk, htb⟩ := C
  rcases st with _ | ⟨v, st⟩
  · exact False.elim h
  cases v <;> try (simp only [oII, iS] at h; done)
  rename_i y
  rcases st with _ | ⟨v, st⟩
  · exact False.elim h
  cases v <;> try (simp only [oII, iS] at h; done)
  rename_i x
  exact lv_ishr hx hb hd (hP _ h H locs L cells slots hH hS hL hk hn)

theorem sn_ladd {l : Launch} {D : va_G} {dA : Nat → ClassId} {sz0 : Nat} {κ : Nat → Nat} {cc : ByteArray} {own : String} {nL : Nat} {hh : List (Nat × Nat × Nat × Nat)} {fr lo : Nat} {Fn : xFn} {pc : Nat} (hd : decode cc pc = .ok (.ladd, 1)) : xSnd l D dA sz0 κ cc own nL hh fr lo Fn pc (oLL (fun x y => x + y) (pc + 1)) := by
  intro p e R s m args below meth c Q Rr P ls st ah k n C hfr hlo hFn hP h H locs L cells slots hH hS hL hk hn
  obtain ⟨hx, hb, hml, hown, hts, hIn, hst, hlk, htb⟩ := C
  rcases st with _ | ⟨v, st⟩
  · exact False.elim h
  cases v <;> try (simp only [oLL, iS] at h; done)
  rename_i y
  rcases st with _ | ⟨v, st⟩
  · exact False.elim h
  cases v <;> try (simp only [oLL, iS] at h; done)
  rename_i x
  exact lv_ladd hx hb hd (hP _ h H locs L cells slots hH hS hL hk hn)

theorem sn_lsub {l : Launch} {D : va_G} {dA : Nat → ClassId} {sz0 : Nat} {κ : Nat → Nat} {cc : ByteArray} {own : String} {nL : Nat} {hh : List (Nat × Nat × Nat × Nat)} {fr lo : Nat} {Fn : xFn} {pc : Nat} (hd : decode cc pc = .ok (.lsub, 1)) : xSnd l D dA sz0 κ cc own nL hh fr lo Fn pc (oLL (fun x y => x - y) (pc + 1)) := by
  intro p e R s m args below meth c Q Rr P ls st ah k n C hfr hlo hFn hP h H locs L cells slots hH hS hL hk hn
  obtain ⟨hx, hb, hml, hown, hts, hIn, hst, hlk, htb⟩ := C
  rcases st with _ | ⟨v, st⟩
  · exact False.elim h
  cases v <;> try (simp only [oLL, iS] at h; done)
  rename_i y
  rcases st with _ | ⟨v, st⟩
  · exact False.elim h
  cases v <;> try (simp only [oLL, iS] at h; done)
  rename_i x
  exact lv_lsub hx hb hd (hP _ h H locs L cells slots hH hS hL hk hn)

theorem sn_lmul {l : Launch} {D : va_G} {dA : Nat → ClassId} {sz0 : Nat} {κ : Nat → Nat} {cc : ByteArray} {own : String} {nL : Nat} {hh : List (Nat × Nat × Nat × Nat)} {fr lo : Nat} {Fn : xFn} {pc : Nat} (hd : decode cc pc = .ok (.lmul, 1)) : xSnd l D dA sz0 κ cc own nL hh fr lo Fn pc (oLL (fun x y => x * y) (pc + 1)) := by
  intro p e R s m args below meth c Q Rr P ls st ah k n C hfr hlo hFn hP h H locs L cells slots hH hS hL hk hn
  obtain ⟨hx, hb, hml, hown, hts, hIn, hst, hlk, htb⟩ := C
  rcases st with _ | ⟨v, st⟩
  · exact False.elim h
  cases v <;> try (simp only [oLL, iS] at h; done)
  rename_i y
  rcases st with _ | ⟨v, st⟩
  · exact False.elim h
  cases v <;> try (simp only [oLL, iS] at h; done)
  rename_i x
  exact lv_lmul hx hb hd (hP _ h H locs L cells slots hH hS hL hk hn)

theorem sn_land {l : Launch} {D : va_G} {dA : Nat → ClassId} {sz0 : Nat} {κ : Nat → Nat} {cc : ByteArray} {own : String} {nL : Nat} {hh : List (Nat × Nat × Nat × Nat)} {fr lo : Nat} {Fn : xFn} {pc : Nat} (hd : decode cc pc = .ok (.land, 1)) : xSnd l D dA sz0 κ cc own nL hh fr lo Fn pc (oLL (fun x y => x &&& y) (pc + 1)) := by
  intro p e R s m args below meth c Q Rr P ls st ah k n C hfr hlo hFn hP h H locs L cells slots hH hS hL hk hn
  obtain ⟨hx, hb, hml, hown, hts, hIn, hst, hlk, htb⟩ := C
  rcases st with _ | ⟨v, st⟩
  · exact False.elim h
  cases v <;> try (simp only [oLL, iS] at h; done)
  rename_i y
  rcases st with _ | ⟨v, st⟩
  · exact False.elim h
  cases v <;> try (simp only [oLL, iS] at h; done)
  rename_i x
  exact lv_land hx hb hd (hP _ h H locs L cells slots hH hS hL hk hn)

theorem sn_lor {l : Launch} {D : va_G} {dA : Nat → ClassId} {sz0 : Nat} {κ : Nat → Nat} {cc : ByteArray} {own : String} {nL : Nat} {hh : List (Nat × Nat × Nat × Nat)} {fr lo : Nat} {Fn : xFn} {pc : Nat} (hd : decode cc pc = .ok (.lor, 1)) : xSnd l D dA sz0 κ cc own nL hh fr lo Fn pc (oLL (fun x y => x ||| y) (pc + 1)) := by
  intro p e R s m args below meth c Q Rr P ls st ah k n C hfr hlo hFn hP h H locs L cells slots hH hS hL hk hn
  obtain ⟨hx, hb, hml, hown, hts, hIn, hst, hlk, htb⟩ := C
  rcases st with _ | ⟨v, st⟩
  · exact False.elim h
  cases v <;> try (simp only [oLL, iS] at h; done)
  rename_i y
  rcases st with _ | ⟨v, st⟩
  · exact False.elim h
  cases v <;> try (simp only [oLL, iS] at h; done)
  rename_i x
  exact lv_lor hx hb hd (hP _ h H locs L cells slots hH hS hL hk hn)

theorem sn_lxor {l : Launch} {D : va_G} {dA : Nat → ClassId} {sz0 : Nat} {κ : Nat → Nat} {cc : ByteArray} {own : String} {nL : Nat} {hh : List (Nat × Nat × Nat × Nat)} {fr lo : Nat} {Fn : xFn} {pc : Nat} (hd : decode cc pc = .ok (.lxor, 1)) : xSnd l D dA sz0 κ cc own nL hh fr lo Fn pc (oLL (fun x y => x ^^^ y) (pc + 1)) := by
  intro p e R s m args below meth c Q Rr P ls st ah k n C hfr hlo hFn hP h H locs L cells slots hH hS hL hk hn
  obtain ⟨hx, hb, hml, hown, hts, hIn, hst, hlk, htb⟩ := C
  rcases st with _ | ⟨v, st⟩
  · exact False.elim h
  cases v <;> try (simp only [oLL, iS] at h; done)
  rename_i y
  rcases st with _ | ⟨v, st⟩
  · exact False.elim h
  cases v <;> try (simp only [oLL, iS] at h; done)
  rename_i x
  exact lv_lxor hx hb hd (hP _ h H locs L cells slots hH hS hL hk hn)

theorem sn_lshl {l : Launch} {D : va_G} {dA : Nat → ClassId} {sz0 : Nat} {κ : Nat → Nat} {cc : ByteArray} {own : String} {nL : Nat} {hh : List (Nat × Nat × Nat × Nat)} {fr lo : Nat} {Fn : xFn} {pc : Nat} (hd : decode cc pc = .ok (.lshl, 1)) : xSnd l D dA sz0 κ cc own nL hh fr lo Fn pc (oLI (fun x y => x <<< (y.toInt64 &&& 63)) (pc + 1)) := by
  intro p e R s m args below meth c Q Rr P ls st ah k n C hfr hlo hFn hP h H locs L cells slots hH hS hL hk hn
  obtain ⟨hx, hb, hml, hown, hts, hIn, hst, hlk, htb⟩ := C
  rcases st with _ | ⟨v, st⟩
  · exact False.elim h
  cases v <;> try (simp only [oLI, iS] at h; done)
  rename_i y
  rcases st with _ | ⟨v, st⟩
  · exact False.elim h
  cases v <;> try (simp only [oLI, iS] at h; done)
  rename_i x
  exact lv_lshl hx hb hd rfl (hP _ h H locs L cells slots hH hS hL hk hn)

theorem sn_lshr {l : Launch} {D : va_G} {dA : Nat → ClassId} {sz0 : Nat} {κ : Nat → Nat} {cc : ByteArray} {own : String} {nL : Nat} {hh : List (Nat × Nat × Nat × Nat)} {fr lo : Nat} {Fn : xFn} {pc : Nat} (hd : decode cc pc = .ok (.lshr, 1)) : xSnd l D dA sz0 κ cc own nL hh fr lo Fn pc (oLI (fun x y => x >>> (y.toInt64 &&& 63)) (pc + 1)) := by
  intro p e R s m args below meth c Q Rr P ls st ah k n C hfr hlo hFn hP h H locs L cells slots hH hS hL hk hn
  obtain ⟨hx, hb, hml, hown, hts, hIn, hst, hlk, htb⟩ := C
  rcases st with _ | ⟨v, st⟩
  · exact False.elim h
  cases v <;> try (simp only [oLI, iS] at h; done)
  rename_i y
  rcases st with _ | ⟨v, st⟩
  · exact False.elim h
  cases v <;> try (simp only [oLI, iS] at h; done)
  rename_i x
  exact lv_lshr hx hb hd rfl (hP _ h H locs L cells slots hH hS hL hk hn)

theorem sn_lushr {l : Launch} {D : va_G} {dA : Nat → ClassId} {sz0 : Nat} {κ : Nat → Nat} {cc : ByteArray} {own : String} {nL : Nat} {hh : List (Nat × Nat × Nat × Nat)} {fr lo : Nat} {Fn : xFn} {pc : Nat} (hd : decode cc pc = .ok (.lushr, 1)) : xSnd l D dA sz0 κ cc own nL hh fr lo Fn pc (oLI (fun x y => (x.toUInt64 >>> (y.toInt64.toUInt64 &&& Int64.toUInt64 63)).toInt64) (pc + 1)) := by
  intro p e R s m args below meth c Q Rr P ls st ah k n C hfr hlo hFn hP h H locs L cells slots hH hS hL hk hn
  obtain ⟨hx, hb, hml, hown, hts, hIn, hst, hlk, htb⟩ := C
  rcases st with _ | ⟨v, st⟩
  · exact False.elim h
  cases v <;> try (simp only [oLI, iS] at h; done)
  rename_i y
  rcases st with _ | ⟨v, st⟩
  · exact False.elim h
  cases v <;> try (simp only [oLI, iS] at h; done)
  rename_i x
  exact lv_lushr hx hb hd rfl (hP _ h H locs L cells slots hH hS hL hk hn)

theorem sn_ineg {l : Launch} {D : va_G} {dA : Nat → ClassId} {sz0 : Nat} {κ : Nat → Nat} {cc : ByteArray} {own : String} {nL : Nat} {hh : List (Nat × Nat × Nat × Nat)} {fr lo : Nat} {Fn : xFn} {pc : Nat} (hd : decode cc pc = .ok (.ineg, 1)) : xSnd l D dA sz0 κ cc own nL hh fr lo Fn pc (oI (fun x => -x) (pc + 1)) := by
  intro p e R s m args below meth c Q Rr P ls st ah k n C hfr hlo hFn hP h H locs L cells slots hH hS hL hk hn
  obtain ⟨hx, hb, hml, hown, hts, hIn, hst, hlk, htb⟩ := C
  rcases st with _ | ⟨v, st⟩
  · exact False.elim h
  cases v <;> try (simp only [oI, iS] at h; done)
  rename_i x
  exact lv_ineg hx hb hd (hP _ h H locs L cells slots hH hS hL hk hn)

theorem sn_i2c {l : Launch} {D : va_G} {dA : Nat → ClassId} {sz0 : Nat} {κ : Nat → Nat} {cc : ByteArray} {own : String} {nL : Nat} {hh : List (Nat × Nat × Nat × Nat)} {fr lo : Nat} {Fn : xFn} {pc : Nat} (hd : decode cc pc = .ok (.i2c, 1)) : xSnd l D dA sz0 κ cc own nL hh fr lo Fn pc (oI (fun x => (x.toUInt32 % 65536).toInt32) (pc + 1)) := by
  intro p e R s m args below meth c Q Rr P ls st ah k n C hfr hlo hFn hP h H locs L cells slots hH hS hL hk hn
  obtain ⟨hx, hb, hml, hown, hts, hIn, hst, hlk, htb⟩ := C
  rcases st with _ | ⟨v, st⟩
  · exact False.elim h
  cases v <;> try (simp only [oI, iS] at h; done)
  rename_i x
  exact lv_i2c hx hb hd rfl (hP _ h H locs L cells slots hH hS hL hk hn)

theorem sn_i2b {l : Launch} {D : va_G} {dA : Nat → ClassId} {sz0 : Nat} {κ : Nat → Nat} {cc : ByteArray} {own : String} {nL : Nat} {hh : List (Nat × Nat × Nat × Nat)} {fr lo : Nat} {Fn : xFn} {pc : Nat} (hd : decode cc pc = .ok (.i2b, 1)) : xSnd l D dA sz0 κ cc own nL hh fr lo Fn pc (oI (fun x => x.toInt8.toInt32) (pc + 1)) := by
  intro p e R s m args below meth c Q Rr P ls st ah k n C hfr hlo hFn hP h H locs L cells slots hH hS hL hk hn
  obtain ⟨hx, hb, hml, hown, hts, hIn, hst, hlk, htb⟩ := C
  rcases st with _ | ⟨v, st⟩
  · exact False.elim h
  cases v <;> try (simp only [oI, iS] at h; done)
  rename_i x
  exact lv_i2b hx hb hd rfl (hP _ h H locs L cells slots hH hS hL hk hn)

theorem sn_i2l {l : Launch} {D : va_G} {dA : Nat → ClassId} {sz0 : Nat} {κ : Nat → Nat} {cc : ByteArray} {own : String} {nL : Nat} {hh : List (Nat × Nat × Nat × Nat)} {fr lo : Nat} {Fn : xFn} {pc : Nat} (hd : decode cc pc = .ok (.i2l, 1)) : xSnd l D dA sz0 κ cc own nL hh fr lo Fn pc (oI2l (pc + 1)) := by
  intro p e R s m args below meth c Q Rr P ls st ah k n C hfr hlo hFn hP h H locs L cells slots hH hS hL hk hn
  obtain ⟨hx, hb, hml, hown, hts, hIn, hst, hlk, htb⟩ := C
  rcases st with _ | ⟨v, st⟩
  · exact False.elim h
  cases v <;> try (simp only [oI2l, iS] at h; done)
  rename_i x
  exact lv_i2l hx hb hd rfl (hP _ h H locs L cells slots hH hS hL hk hn)

theorem sn_l2i {l : Launch} {D : va_G} {dA : Nat → ClassId} {sz0 : Nat} {κ : Nat → Nat} {cc : ByteArray} {own : String} {nL : Nat} {hh : List (Nat × Nat × Nat × Nat)} {fr lo : Nat} {Fn : xFn} {pc : Nat} (hd : decode cc pc = .ok (.l2i, 1)) : xSnd l D dA sz0 κ cc own nL hh fr lo Fn pc (oL2i (pc + 1)) := by
  intro p e R s m args below meth c Q Rr P ls st ah k n C hfr hlo hFn hP h H locs L cells slots hH hS hL hk hn
  obtain ⟨hx, hb, hml, hown, hts, hIn, hst, hlk, htb⟩ := C
  rcases st with _ | ⟨v, st⟩
  · exact False.elim h
  cases v <;> try (simp only [oL2i, iS] at h; done)
  rename_i x
  exact lv_l2i hx hb hd rfl (hP _ h H locs L cells slots hH hS hL hk hn)

theorem sn_i2f {l : Launch} {D : va_G} {dA : Nat → ClassId} {sz0 : Nat} {κ : Nat → Nat} {cc : ByteArray} {own : String} {nL : Nat} {hh : List (Nat × Nat × Nat × Nat)} {fr lo : Nat} {Fn : xFn} {pc : Nat} (hd : decode cc pc = .ok (.i2f, 1)) : xSnd l D dA sz0 κ cc own nL hh fr lo Fn pc (oI2f (pc + 1)) := by
  intro p e R s m args below meth c Q Rr P ls st ah k n C hfr hlo hFn hP h H locs L cells slots hH hS hL hk hn
  obtain ⟨hx, hb, hml, hown, hts, hIn, hst, hlk, htb⟩ := C
  rcases st with _ | ⟨v, st⟩
  · exact False.elim h
  cases v <;> try (simp only [oI2f, iS] at h; done)
  rename_i x
  exact lv_i2f hx hb hd (hP _ h H locs L cells slots hH hS hL hk hn)

theorem sn_f2d {l : Launch} {D : va_G} {dA : Nat → ClassId} {sz0 : Nat} {κ : Nat → Nat} {cc : ByteArray} {own : String} {nL : Nat} {hh : List (Nat × Nat × Nat × Nat)} {fr lo : Nat} {Fn : xFn} {pc : Nat} (hd : decode cc pc = .ok (.f2d, 1)) : xSnd l D dA sz0 κ cc own nL hh fr lo Fn pc (oF2d (pc + 1)) := by
  intro p e R s m args below meth c Q Rr P ls st ah k n C hfr hlo hFn hP h H locs L cells slots hH hS hL hk hn
  obtain ⟨hx, hb, hml, hown, hts, hIn, hst, hlk, htb⟩ := C
  rcases st with _ | ⟨v, st⟩
  · exact False.elim h
  cases v <;> try (simp only [oF2d, iC] at h; done)
  rename_i x
  exact lv_f2d hx hb hd h.1 (hP _ h.2 H locs L cells slots hH hS hL hk hn)

theorem sn_fadd {l : Launch} {D : va_G} {dA : Nat → ClassId} {sz0 : Nat} {κ : Nat → Nat} {cc : ByteArray} {own : String} {nL : Nat} {hh : List (Nat × Nat × Nat × Nat)} {fr lo : Nat} {Fn : xFn} {pc : Nat} (hd : decode cc pc = .ok (.fadd, 1)) : xSnd l D dA sz0 κ cc own nL hh fr lo Fn pc (oFF FP.fadd (pc + 1)) := by
  intro p e R s m args below meth c Q Rr P ls st ah k n C hfr hlo hFn hP h H locs L cells slots hH hS hL hk hn
  obtain ⟨hx, hb, hml, hown, hts, hIn, hst, hlk, htb⟩ := C
  rcases st with _ | ⟨v, st⟩
  · exact False.elim h
  cases v <;> try (simp only [oFF, iC] at h; done)
  rename_i y
  rcases st with _ | ⟨v, st⟩
  · exact False.elim h
  cases v <;> try (simp only [oFF, iC] at h; done)
  rename_i x
  exact lv_fadd hx hb hd h.1 (hP _ h.2 H locs L cells slots hH hS hL hk hn)

theorem sn_fsub {l : Launch} {D : va_G} {dA : Nat → ClassId} {sz0 : Nat} {κ : Nat → Nat} {cc : ByteArray} {own : String} {nL : Nat} {hh : List (Nat × Nat × Nat × Nat)} {fr lo : Nat} {Fn : xFn} {pc : Nat} (hd : decode cc pc = .ok (.fsub, 1)) : xSnd l D dA sz0 κ cc own nL hh fr lo Fn pc (oFF FP.fsub (pc + 1)) := by
  intro p e R s m args below meth c Q Rr P ls st ah k n C hfr hlo hFn hP h H locs L cells slots hH hS hL hk hn
  obtain ⟨hx, hb, hml, hown, hts, hIn, hst, hlk, htb⟩ := C
  rcases st with _ | ⟨v, st⟩
  · exact False.elim h
  cases v <;> try (simp only [oFF, iC] at h; done)
  rename_i y
  rcases st with _ | ⟨v, st⟩
  · exact False.elim h
  cases v <;> try (simp only [oFF, iC] at h; done)
  rename_i x
  exact lv_fsub hx hb hd h.1 (hP _ h.2 H locs L cells slots hH hS hL hk hn)

theorem sn_fdiv {l : Launch} {D : va_G} {dA : Nat → ClassId} {sz0 : Nat} {κ : Nat → Nat} {cc : ByteArray} {own : String} {nL : Nat} {hh : List (Nat × Nat × Nat × Nat)} {fr lo : Nat} {Fn : xFn} {pc : Nat} (hd : decode cc pc = .ok (.fdiv, 1)) : xSnd l D dA sz0 κ cc own nL hh fr lo Fn pc (oFF FP.fdiv (pc + 1)) := by
  intro p e R s m args below meth c Q Rr P ls st ah k n C hfr hlo hFn hP h H locs L cells slots hH hS hL hk hn
  obtain ⟨hx, hb, hml, hown, hts, hIn, hst, hlk, htb⟩ := C
  rcases st with _ | ⟨v, st⟩
  · exact False.elim h
  cases v <;> try (simp only [oFF, iC] at h; done)
  rename_i y
  rcases st with _ | ⟨v, st⟩
  · exact False.elim h
  cases v <;> try (simp only [oFF, iC] at h; done)
  rename_i x
  exact lv_fdiv hx hb hd h.1 (hP _ h.2 H locs L cells slots hH hS hL hk hn)

theorem sn_fmul {l : Launch} {D : va_G} {dA : Nat → ClassId} {sz0 : Nat} {κ : Nat → Nat} {cc : ByteArray} {own : String} {nL : Nat} {hh : List (Nat × Nat × Nat × Nat)} {fr lo : Nat} {Fn : xFn} {pc : Nat} (hd : decode cc pc = .ok (.fmul, 1)) : xSnd l D dA sz0 κ cc own nL hh fr lo Fn pc (oFF FP.fmul (pc + 1)) := by
  intro p e R s m args below meth c Q Rr P ls st ah k n C hfr hlo hFn hP h H locs L cells slots hH hS hL hk hn
  obtain ⟨hx, hb, hml, hown, hts, hIn, hst, hlk, htb⟩ := C
  rcases st with _ | ⟨v, st⟩
  · exact False.elim h
  cases v <;> try (simp only [oFF, iC] at h; done)
  rename_i y
  rcases st with _ | ⟨v, st⟩
  · exact False.elim h
  cases v <;> try (simp only [oFF, iC] at h; done)
  rename_i x
  exact lv_fmul hx hb hd h.1 (hP _ h.2 H locs L cells slots hH hS hL hk hn)

theorem sn_f2i {l : Launch} {D : va_G} {dA : Nat → ClassId} {sz0 : Nat} {κ : Nat → Nat} {cc : ByteArray} {own : String} {nL : Nat} {hh : List (Nat × Nat × Nat × Nat)} {fr lo : Nat} {Fn : xFn} {pc : Nat} (hd : decode cc pc = .ok (.f2i, 1)) : xSnd l D dA sz0 κ cc own nL hh fr lo Fn pc (oF2i (pc + 1)) := by
  intro p e R s m args below meth c Q Rr P ls st ah k n C hfr hlo hFn hP h H locs L cells slots hH hS hL hk hn
  obtain ⟨hx, hb, hml, hown, hts, hIn, hst, hlk, htb⟩ := C
  rcases st with _ | ⟨v, st⟩
  · exact False.elim h
  cases v <;> try (simp only [oF2i, iS] at h; done)
  rename_i x
  exact lv_f2i hx hb hd (hP _ h H locs L cells slots hH hS hL hk hn)

theorem sn_lneg {l : Launch} {D : va_G} {dA : Nat → ClassId} {sz0 : Nat} {κ : Nat → Nat} {cc : ByteArray} {own : String} {nL : Nat} {hh : List (Nat × Nat × Nat × Nat)} {fr lo : Nat} {Fn : xFn} {pc : Nat} (hd : decode cc pc = .ok (.lneg, 1)) : xSnd l D dA sz0 κ cc own nL hh fr lo Fn pc (oLn (pc + 1)) := by
  intro p e R s m args below meth c Q Rr P ls st ah k n C hfr hlo hFn hP h H locs L cells slots hH hS hL hk hn
  obtain ⟨hx, hb, hml, hown, hts, hIn, hst, hlk, htb⟩ := C
  rcases st with _ | ⟨v, st⟩
  · exact False.elim h
  cases v <;> try (simp only [oLn, iS] at h; done)
  rename_i x
  exact lv_lneg hx hb hd (hP _ h H locs L cells slots hH hS hL hk hn)

theorem sn_fcmp {l : Launch} {D : va_G} {dA : Nat → ClassId} {sz0 : Nat} {κ : Nat → Nat} {cc : ByteArray} {own : String} {nL : Nat} {hh : List (Nat × Nat × Nat × Nat)} {fr lo : Nat} {Fn : xFn} {pc : Nat} {op : CmpOp} (hd : decode cc pc = .ok (.fcmp op, 1)) : xSnd l D dA sz0 κ cc own nL hh fr lo Fn pc (oFc op (pc + 1)) := by
  intro p e R s m args below meth c Q Rr P ls st ah k n C hfr hlo hFn hP h H locs L cells slots hH hS hL hk hn
  obtain ⟨hx, hb, hml, hown, hts, hIn, hst, hlk, htb⟩ := C
  rcases st with _ | ⟨v, st⟩
  · exact False.elim h
  cases v <;> try (simp only [oFc, iS] at h; done)
  rename_i y
  rcases st with _ | ⟨v, st⟩
  · exact False.elim h
  cases v <;> try (simp only [oFc, iS] at h; done)
  rename_i x
  exact lv_fcmp hx hb hd (hP _ h H locs L cells slots hH hS hL hk hn)

theorem sn_dcmp {l : Launch} {D : va_G} {dA : Nat → ClassId} {sz0 : Nat} {κ : Nat → Nat} {cc : ByteArray} {own : String} {nL : Nat} {hh : List (Nat × Nat × Nat × Nat)} {fr lo : Nat} {Fn : xFn} {pc : Nat} {op : CmpOp} (hd : decode cc pc = .ok (.dcmp op, 1)) : xSnd l D dA sz0 κ cc own nL hh fr lo Fn pc (oDc op (pc + 1)) := by
  intro p e R s m args below meth c Q Rr P ls st ah k n C hfr hlo hFn hP h H locs L cells slots hH hS hL hk hn
  obtain ⟨hx, hb, hml, hown, hts, hIn, hst, hlk, htb⟩ := C
  rcases st with _ | ⟨v, st⟩
  · exact False.elim h
  cases v <;> try (simp only [oDc, iS] at h; done)
  rename_i y
  rcases st with _ | ⟨v, st⟩
  · exact False.elim h
  cases v <;> try (simp only [oDc, iS] at h; done)
  rename_i x
  exact lv_dcmp hx hb hd (hP _ h H locs L cells slots hH hS hL hk hn)

theorem sn_lcmp {l : Launch} {D : va_G} {dA : Nat → ClassId} {sz0 : Nat} {κ : Nat → Nat} {cc : ByteArray} {own : String} {nL : Nat} {hh : List (Nat × Nat × Nat × Nat)} {fr lo : Nat} {Fn : xFn} {pc : Nat} (hd : decode cc pc = .ok (.lcmp, 1)) : xSnd l D dA sz0 κ cc own nL hh fr lo Fn pc (oLc (pc + 1)) := by
  intro p e R s m args below meth c Q Rr P ls st ah k n C hfr hlo hFn hP h H locs L cells slots hH hS hL hk hn
  obtain ⟨hx, hb, hml, hown, hts, hIn, hst, hlk, htb⟩ := C
  rcases st with _ | ⟨v, st⟩
  · exact False.elim h
  cases v <;> try (simp only [oLc, iS] at h; done)
  rename_i y
  rcases st with _ | ⟨v, st⟩
  · exact False.elim h
  cases v <;> try (simp only [oLc, iS] at h; done)
  rename_i x
  exact W.lcmp hx hb hd (hP _ h H locs L cells slots hH hS hL hk hn)

theorem sn_idiv {l : Launch} {D : va_G} {dA : Nat → ClassId} {sz0 : Nat} {κ : Nat → Nat} {cc : ByteArray} {own : String} {nL : Nat} {hh : List (Nat × Nat × Nat × Nat)} {fr lo : Nat} {Fn : xFn} {pc : Nat} (hd : decode cc pc = .ok (.idiv, 1)) : xSnd l D dA sz0 κ cc own nL hh fr lo Fn pc (oDiv (pc + 1)) := by
  intro p e R s m args below meth c Q Rr P ls st ah k n C hfr hlo hFn hP h H locs L cells slots hH hS hL hk hn
  obtain ⟨hx, hb, hml, hown, hts, hIn, hst, hlk, htb⟩ := C
  rcases st with _ | ⟨v, st⟩
  · exact False.elim h
  cases v <;> try (simp only [oDiv, iC] at h; done)
  rename_i y
  rcases st with _ | ⟨v, st⟩
  · exact False.elim h
  cases v <;> try (simp only [oDiv, iC] at h; done)
  rename_i x
  exact lv_idiv hx hb hd h.1 (hP _ h.2 H locs L cells slots hH hS hL hk hn)

theorem sn_irem {l : Launch} {D : va_G} {dA : Nat → ClassId} {sz0 : Nat} {κ : Nat → Nat} {cc : ByteArray} {own : String} {nL : Nat} {hh : List (Nat × Nat × Nat × Nat)} {fr lo : Nat} {Fn : xFn} {pc : Nat} (hd : decode cc pc = .ok (.irem, 1)) : xSnd l D dA sz0 κ cc own nL hh fr lo Fn pc (oRem (pc + 1)) := by
  intro p e R s m args below meth c Q Rr P ls st ah k n C hfr hlo hFn hP h H locs L cells slots hH hS hL hk hn
  obtain ⟨hx, hb, hml, hown, hts, hIn, hst, hlk, htb⟩ := C
  rcases st with _ | ⟨v, st⟩
  · exact False.elim h
  cases v <;> try (simp only [oRem, iC] at h; done)
  rename_i y
  rcases st with _ | ⟨v, st⟩
  · exact False.elim h
  cases v <;> try (simp only [oRem, iC] at h; done)
  rename_i x
  exact lv_irem hx hb hd h.1 (hP _ h.2 H locs L cells slots hH hS hL hk hn)

theorem sn_dup {l : Launch} {D : va_G} {dA : Nat → ClassId} {sz0 : Nat} {κ : Nat → Nat} {cc : ByteArray} {own : String} {nL : Nat} {hh : List (Nat × Nat × Nat × Nat)} {fr lo : Nat} {Fn : xFn} {pc : Nat} (hd : decode cc pc = .ok (.dup, 1)) : xSnd l D dA sz0 κ cc own nL hh fr lo Fn pc (oDup (pc + 1)) := by
  intro p e R s m args below meth c Q Rr P ls st ah k n C hfr hlo hFn hP h H locs L cells slots hH hS hL hk hn
  obtain ⟨hx, hb, hml, hown, hts, hIn, hst, hlk, htb⟩ := C
  rcases st with _ | ⟨v, st⟩
  · exact False.elim h
  exact lv_dup hx hb hd h.1 (hP _ h.2 H locs L cells slots hH hS hL hk hn)

theorem sn_dup_x1 {l : Launch} {D : va_G} {dA : Nat → ClassId} {sz0 : Nat} {κ : Nat → Nat} {cc : ByteArray} {own : String} {nL : Nat} {hh : List (Nat × Nat × Nat × Nat)} {fr lo : Nat} {Fn : xFn} {pc : Nat} (hd : decode cc pc = .ok (.dup_x1, 1)) : xSnd l D dA sz0 κ cc own nL hh fr lo Fn pc (oDupX1 (pc + 1)) := by
  intro p e R s m args below meth c Q Rr P ls st ah k n C hfr hlo hFn hP h H locs L cells slots hH hS hL hk hn
  obtain ⟨hx, hb, hml, hown, hts, hIn, hst, hlk, htb⟩ := C
  rcases st with _ | ⟨v, st⟩
  · exact False.elim h
  rcases st with _ | ⟨w, st⟩
  · exact False.elim h
  exact lv_dup_x1 hx hb hd h.1.1 h.1.2 (hP _ h.2 H locs L cells slots hH hS hL hk hn)

theorem sn_dup2 {l : Launch} {D : va_G} {dA : Nat → ClassId} {sz0 : Nat} {κ : Nat → Nat} {cc : ByteArray} {own : String} {nL : Nat} {hh : List (Nat × Nat × Nat × Nat)} {fr lo : Nat} {Fn : xFn} {pc : Nat} (hd : decode cc pc = .ok (.dup2, 1)) : xSnd l D dA sz0 κ cc own nL hh fr lo Fn pc (oDup2 (pc + 1)) := by
  intro p e R s m args below meth c Q Rr P ls st ah k n C hfr hlo hFn hP h H locs L cells slots hH hS hL hk hn
  obtain ⟨hx, hb, hml, hown, hts, hIn, hst, hlk, htb⟩ := C
  rcases st with _ | ⟨v, st⟩
  · exact False.elim h
  rcases st with _ | ⟨w, st⟩
  · exact False.elim h
  exact lv_dup2_11 hx hb hd h.1.1 h.1.2 (hP _ h.2 H locs L cells slots hH hS hL hk hn)

theorem sn_dup2l {l : Launch} {D : va_G} {dA : Nat → ClassId} {sz0 : Nat} {κ : Nat → Nat} {cc : ByteArray} {own : String} {nL : Nat} {hh : List (Nat × Nat × Nat × Nat)} {fr lo : Nat} {Fn : xFn} {pc : Nat} (hd : decode cc pc = .ok (.dup2, 1)) : xSnd l D dA sz0 κ cc own nL hh fr lo Fn pc (oDup2L (pc + 1)) := by
  intro p e R s m args below meth c Q Rr P ls st ah k n C hfr hlo hFn hP h H locs L cells slots hH hS hL hk hn
  obtain ⟨hx, hb, hml, hown, hts, hIn, hst, hlk, htb⟩ := C
  rcases st with _ | ⟨v, st⟩
  · exact False.elim h
  exact lv_dup2_2 hx hb hd h.1 (hP _ h.2 H locs L cells slots hH hS hL hk hn)

theorem sn_pop {l : Launch} {D : va_G} {dA : Nat → ClassId} {sz0 : Nat} {κ : Nat → Nat} {cc : ByteArray} {own : String} {nL : Nat} {hh : List (Nat × Nat × Nat × Nat)} {fr lo : Nat} {Fn : xFn} {pc : Nat} (hd : decode cc pc = .ok (.pop, 1)) : xSnd l D dA sz0 κ cc own nL hh fr lo Fn pc (oPop (pc + 1)) := by
  intro p e R s m args below meth c Q Rr P ls st ah k n C hfr hlo hFn hP h H locs L cells slots hH hS hL hk hn
  obtain ⟨hx, hb, hml, hown, hts, hIn, hst, hlk, htb⟩ := C
  rcases st with _ | ⟨v, st⟩
  · exact False.elim h
  exact lv_pop hx hb hd h.1 (hP _ h.2 H locs L cells slots hH hS hL hk hn)

theorem sn_goto {l : Launch} {D : va_G} {dA : Nat → ClassId} {sz0 : Nat} {κ : Nat → Nat} {cc : ByteArray} {own : String} {nL : Nat} {hh : List (Nat × Nat × Nat × Nat)} {fr lo : Nat} {Fn : xFn} {pc : Nat} {off : Int} {t : Nat} (hd : decode cc pc = .ok (.goto off, 3)) (ht : (pc : Int) + off = (t : Int)) : xSnd l D dA sz0 κ cc own nL hh fr lo Fn pc (oGo t) := by
  intro p e R s m args below meth c Q Rr P ls st ah k n C hfr hlo hFn hP h H locs L cells slots hH hS hL hk hn
  obtain ⟨hx, hb, hml, hown, hts, hIn, hst, hlk, htb⟩ := C
  exact lv_goto hx hb hd ht (hP _ h H locs L cells slots hH hS hL hk hn)

theorem sn_if_eq {l : Launch} {D : va_G} {dA : Nat → ClassId} {sz0 : Nat} {κ : Nat → Nat} {cc : ByteArray} {own : String} {nL : Nat} {hh : List (Nat × Nat × Nat × Nat)} {fr lo : Nat} {Fn : xFn} {pc : Nat} {off : Int} {t : Nat} (hd : decode cc pc = .ok (.ifCond .eq off, 3)) (ht : (pc : Int) + off = (t : Int)) : xSnd l D dA sz0 κ cc own nL hh fr lo Fn pc (oZ (fun x => x = 0) t (pc + 3)) := by
  intro p e R s m args below meth c Q Rr P ls st ah k n C hfr hlo hFn hP h H locs L cells slots hH hS hL hk hn
  obtain ⟨hx, hb, hml, hown, hts, hIn, hst, hlk, htb⟩ := C
  rcases st with _ | ⟨v, st⟩
  · exact False.elim h
  cases v <;> try (simp only [oZ, iB] at h; done)
  rename_i x
  exact lv_if_eq hx hb hd ht (fun q => hP _ (h.1 q) H locs L cells slots hH hS hL hk hn) (fun q => hP _ (h.2 q) H locs L cells slots hH hS hL hk hn)

theorem sn_if_ne {l : Launch} {D : va_G} {dA : Nat → ClassId} {sz0 : Nat} {κ : Nat → Nat} {cc : ByteArray} {own : String} {nL : Nat} {hh : List (Nat × Nat × Nat × Nat)} {fr lo : Nat} {Fn : xFn} {pc : Nat} {off : Int} {t : Nat} (hd : decode cc pc = .ok (.ifCond .ne off, 3)) (ht : (pc : Int) + off = (t : Int)) : xSnd l D dA sz0 κ cc own nL hh fr lo Fn pc (oZ (fun x => ¬ x = 0) t (pc + 3)) := by
  intro p e R s m args below meth c Q Rr P ls st ah k n C hfr hlo hFn hP h H locs L cells slots hH hS hL hk hn
  obtain ⟨hx, hb, hml, hown, hts, hIn, hst, hlk, htb⟩ := C
  rcases st with _ | ⟨v, st⟩
  · exact False.elim h
  cases v <;> try (simp only [oZ, iB] at h; done)
  rename_i x
  exact lv_if_ne hx hb hd ht (fun q => hP _ (h.1 q) H locs L cells slots hH hS hL hk hn) (fun q => hP _ (h.2 (fun z => z q)) H locs L cells slots hH hS hL hk hn)

theorem sn_if_lt {l : Launch} {D : va_G} {dA : Nat → ClassId} {sz0 : Nat} {κ : Nat → Nat} {cc : ByteArray} {own : String} {nL : Nat} {hh : List (Nat × Nat × Nat × Nat)} {fr lo : Nat} {Fn : xFn} {pc : Nat} {off : Int} {t : Nat} (hd : decode cc pc = .ok (.ifCond .lt off, 3)) (ht : (pc : Int) + off = (t : Int)) : xSnd l D dA sz0 κ cc own nL hh fr lo Fn pc (oZ (fun x => x < 0) t (pc + 3)) := by
  intro p e R s m args below meth c Q Rr P ls st ah k n C hfr hlo hFn hP h H locs L cells slots hH hS hL hk hn
  obtain ⟨hx, hb, hml, hown, hts, hIn, hst, hlk, htb⟩ := C
  rcases st with _ | ⟨v, st⟩
  · exact False.elim h
  cases v <;> try (simp only [oZ, iB] at h; done)
  rename_i x
  exact lv_if_lt hx hb hd ht (fun q => hP _ (h.1 q) H locs L cells slots hH hS hL hk hn) (fun q => hP _ (h.2 q) H locs L cells slots hH hS hL hk hn)

theorem sn_if_ge {l : Launch} {D : va_G} {dA : Nat → ClassId} {sz0 : Nat} {κ : Nat → Nat} {cc : ByteArray} {own : String} {nL : Nat} {hh : List (Nat × Nat × Nat × Nat)} {fr lo : Nat} {Fn : xFn} {pc : Nat} {off : Int} {t : Nat} (hd : decode cc pc = .ok (.ifCond .ge off, 3)) (ht : (pc : Int) + off = (t : Int)) : xSnd l D dA sz0 κ cc own nL hh fr lo Fn pc (oZ (fun x => 0 ≤ x) t (pc + 3)) := by
  intro p e R s m args below meth c Q Rr P ls st ah k n C hfr hlo hFn hP h H locs L cells slots hH hS hL hk hn
  obtain ⟨hx, hb, hml, hown, hts, hIn, hst, hlk, htb⟩ := C
  rcases st with _ | ⟨v, st⟩
  · exact False.elim h
  cases v <;> try (simp only [oZ, iB] at h; done)
  rename_i x
  exact lv_if_ge hx hb hd ht (fun q => hP _ (h.1 q) H locs L cells slots hH hS hL hk hn) (fun q => hP _ (h.2 q) H locs L cells slots hH hS hL hk hn)

theorem sn_if_gt {l : Launch} {D : va_G} {dA : Nat → ClassId} {sz0 : Nat} {κ : Nat → Nat} {cc : ByteArray} {own : String} {nL : Nat} {hh : List (Nat × Nat × Nat × Nat)} {fr lo : Nat} {Fn : xFn} {pc : Nat} {off : Int} {t : Nat} (hd : decode cc pc = .ok (.ifCond .gt off, 3)) (ht : (pc : Int) + off = (t : Int)) : xSnd l D dA sz0 κ cc own nL hh fr lo Fn pc (oZ (fun x => 0 < x) t (pc + 3)) := by
  intro p e R s m args below meth c Q Rr P ls st ah k n C hfr hlo hFn hP h H locs L cells slots hH hS hL hk hn
  obtain ⟨hx, hb, hml, hown, hts, hIn, hst, hlk, htb⟩ := C
  rcases st with _ | ⟨v, st⟩
  · exact False.elim h
  cases v <;> try (simp only [oZ, iB] at h; done)
  rename_i x
  exact lv_if_gt hx hb hd ht (fun q => hP _ (h.1 q) H locs L cells slots hH hS hL hk hn) (fun q => hP _ (h.2 q) H locs L cells slots hH hS hL hk hn)

theorem sn_if_le {l : Launch} {D : va_G} {dA : Nat → ClassId} {sz0 : Nat} {κ : Nat → Nat} {cc : ByteArray} {own : String} {nL : Nat} {hh : List (Nat × Nat × Nat × Nat)} {fr lo : Nat} {Fn : xFn} {pc : Nat} {off : Int} {t : Nat} (hd : decode cc pc = .ok (.ifCond .le off, 3)) (ht : (pc : Int) + off = (t : Int)) : xSnd l D dA sz0 κ cc own nL hh fr lo Fn pc (oZ (fun x => x ≤ 0) t (pc + 3)) := by
  intro p e R s m args below meth c Q Rr P ls st ah k n C hfr hlo hFn hP h H locs L cells slots hH hS hL hk hn
  obtain ⟨hx, hb, hml, hown, hts, hIn, hst, hlk, htb⟩ := C
  rcases st with _ | ⟨v, st⟩
  · exact False.elim h
  cases v <;> try (simp only [oZ, iB] at h; done)
  rename_i x
  exact lv_if_le hx hb hd ht (fun q => hP _ (h.1 q) H locs L cells slots hH hS hL hk hn) (fun q => hP _ (h.2 q) H locs L cells slots hH hS hL hk hn)

theorem sn_icmp_eq {l : Launch} {D : va_G} {dA : Nat → ClassId} {sz0 : Nat} {κ : Nat → Nat} {cc : ByteArray} {own : String} {nL : Nat} {hh : List (Nat × Nat × Nat × Nat)} {fr lo : Nat} {Fn : xFn} {pc : Nat} {off : Int} {t : Nat} (hd : decode cc pc = .ok (.if_icmp .eq off, 3)) (ht : (pc : Int) + off = (t : Int)) : xSnd l D dA sz0 κ cc own nL hh fr lo Fn pc (oCmp (fun x y => x = y) t (pc + 3)) := by
  intro p e R s m args below meth c Q Rr P ls st ah k n C hfr hlo hFn hP h H locs L cells slots hH hS hL hk hn
  obtain ⟨hx, hb, hml, hown, hts, hIn, hst, hlk, htb⟩ := C
  rcases st with _ | ⟨v, st⟩
  · exact False.elim h
  cases v <;> try (simp only [oCmp, iB] at h; done)
  rename_i y
  rcases st with _ | ⟨v, st⟩
  · exact False.elim h
  cases v <;> try (simp only [oCmp, iB] at h; done)
  rename_i x
  exact lv_icmp_eq hx hb hd ht (fun q => hP _ (h.1 q) H locs L cells slots hH hS hL hk hn) (fun q => hP _ (h.2 q) H locs L cells slots hH hS hL hk hn)

theorem sn_icmp_ne {l : Launch} {D : va_G} {dA : Nat → ClassId} {sz0 : Nat} {κ : Nat → Nat} {cc : ByteArray} {own : String} {nL : Nat} {hh : List (Nat × Nat × Nat × Nat)} {fr lo : Nat} {Fn : xFn} {pc : Nat} {off : Int} {t : Nat} (hd : decode cc pc = .ok (.if_icmp .ne off, 3)) (ht : (pc : Int) + off = (t : Int)) : xSnd l D dA sz0 κ cc own nL hh fr lo Fn pc (oCmp (fun x y => ¬ x = y) t (pc + 3)) := by
  intro p e R s m args below meth c Q Rr P ls st ah k n C hfr hlo hFn hP h H locs L cells slots hH hS hL hk hn
  obtain ⟨hx, hb, hml, hown, hts, hIn, hst, hlk, htb⟩ := C
  rcases st with _ | ⟨v, st⟩
  · exact False.elim h
  cases v <;> try (simp only [oCmp, iB] at h; done)
  rename_i y
  rcases st with _ | ⟨v, st⟩
  · exact False.elim h
  cases v <;> try (simp only [oCmp, iB] at h; done)
  rename_i x
  exact lv_icmp_ne hx hb hd ht (fun q => hP _ (h.1 q) H locs L cells slots hH hS hL hk hn) (fun q => hP _ (h.2 (fun z => z q)) H locs L cells slots hH hS hL hk hn)

theorem sn_icmp_lt {l : Launch} {D : va_G} {dA : Nat → ClassId} {sz0 : Nat} {κ : Nat → Nat} {cc : ByteArray} {own : String} {nL : Nat} {hh : List (Nat × Nat × Nat × Nat)} {fr lo : Nat} {Fn : xFn} {pc : Nat} {off : Int} {t : Nat} (hd : decode cc pc = .ok (.if_icmp .lt off, 3)) (ht : (pc : Int) + off = (t : Int)) : xSnd l D dA sz0 κ cc own nL hh fr lo Fn pc (oCmp (fun x y => x < y) t (pc + 3)) := by
  intro p e R s m args below meth c Q Rr P ls st ah k n C hfr hlo hFn hP h H locs L cells slots hH hS hL hk hn
  obtain ⟨hx, hb, hml, hown, hts, hIn, hst, hlk, htb⟩ := C
  rcases st with _ | ⟨v, st⟩
  · exact False.elim h
  cases v <;> try (simp only [oCmp, iB] at h; done)
  rename_i y
  rcases st with _ | ⟨v, st⟩
  · exact False.elim h
  cases v <;> try (simp only [oCmp, iB] at h; done)
  rename_i x
  exact lv_icmp_lt hx hb hd ht (fun q => hP _ (h.1 q) H locs L cells slots hH hS hL hk hn) (fun q => hP _ (h.2 q) H locs L cells slots hH hS hL hk hn)

theorem sn_icmp_ge {l : Launch} {D : va_G} {dA : Nat → ClassId} {sz0 : Nat} {κ : Nat → Nat} {cc : ByteArray} {own : String} {nL : Nat} {hh : List (Nat × Nat × Nat × Nat)} {fr lo : Nat} {Fn : xFn} {pc : Nat} {off : Int} {t : Nat} (hd : decode cc pc = .ok (.if_icmp .ge off, 3)) (ht : (pc : Int) + off = (t : Int)) : xSnd l D dA sz0 κ cc own nL hh fr lo Fn pc (oCmp (fun x y => y ≤ x) t (pc + 3)) := by
  intro p e R s m args below meth c Q Rr P ls st ah k n C hfr hlo hFn hP h H locs L cells slots hH hS hL hk hn
  obtain ⟨hx, hb, hml, hown, hts, hIn, hst, hlk, htb⟩ := C
  rcases st with _ | ⟨v, st⟩
  · exact False.elim h
  cases v <;> try (simp only [oCmp, iB] at h; done)
  rename_i y
  rcases st with _ | ⟨v, st⟩
  · exact False.elim h
  cases v <;> try (simp only [oCmp, iB] at h; done)
  rename_i x
  exact lv_icmp_ge hx hb hd ht (fun q => hP _ (h.1 q) H locs L cells slots hH hS hL hk hn) (fun q => hP _ (h.2 q) H locs L cells slots hH hS hL hk hn)

theorem sn_icmp_gt {l : Launch} {D : va_G} {dA : Nat → ClassId} {sz0 : Nat} {κ : Nat → Nat} {cc : ByteArray} {own : String} {nL : Nat} {hh : List (Nat × Nat × Nat × Nat)} {fr lo : Nat} {Fn : xFn} {pc : Nat} {off : Int} {t : Nat} (hd : decode cc pc = .ok (.if_icmp .gt off, 3)) (ht : (pc : Int) + off = (t : Int)) : xSnd l D dA sz0 κ cc own nL hh fr lo Fn pc (oCmp (fun x y => y < x) t (pc + 3)) := by
  intro p e R s m args below meth c Q Rr P ls st ah k n C hfr hlo hFn hP h H locs L cells slots hH hS hL hk hn
  obtain ⟨hx, hb, hml, hown, hts, hIn, hst, hlk, htb⟩ := C
  rcases st with _ | ⟨v, st⟩
  · exact False.elim h
  cases v <;> try (simp only [oCmp, iB] at h; done)
  rename_i y
  rcases st with _ | ⟨v, st⟩
  · exact False.elim h
  cases v <;> try (simp only [oCmp, iB] at h; done)
  rename_i x
  exact lv_icmp_gt hx hb hd ht (fun q => hP _ (h.1 q) H locs L cells slots hH hS hL hk hn) (fun q => hP _ (h.2 q) H locs L cells slots hH hS hL hk hn)

theorem sn_icmp_le {l : Launch} {D : va_G} {dA : Nat → ClassId} {sz0 : Nat} {κ : Nat → Nat} {cc : ByteArray} {own : String} {nL : Nat} {hh : List (Nat × Nat × Nat × Nat)} {fr lo : Nat} {Fn : xFn} {pc : Nat} {off : Int} {t : Nat} (hd : decode cc pc = .ok (.if_icmp .le off, 3)) (ht : (pc : Int) + off = (t : Int)) : xSnd l D dA sz0 κ cc own nL hh fr lo Fn pc (oCmp (fun x y => x ≤ y) t (pc + 3)) := by
  intro p e R s m args below meth c Q Rr P ls st ah k n C hfr hlo hFn hP h H locs L cells slots hH hS hL hk hn
  obtain ⟨hx, hb, hml, hown, hts, hIn, hst, hlk, htb⟩ := C
  rcases st with _ | ⟨v, st⟩
  · exact False.elim h
  cases v <;> try (simp only [oCmp, iB] at h; done)
  rename_i y
  rcases st with _ | ⟨v, st⟩
  · exact False.elim h
  cases v <;> try (simp only [oCmp, iB] at h; done)
  rename_i x
  exact lv_icmp_le hx hb hd ht (fun q => hP _ (h.1 q) H locs L cells slots hH hS hL hk hn) (fun q => hP _ (h.2 q) H locs L cells slots hH hS hL hk hn)

theorem sn_ifnull {l : Launch} {D : va_G} {dA : Nat → ClassId} {sz0 : Nat} {κ : Nat → Nat} {cc : ByteArray} {own : String} {nL : Nat} {hh : List (Nat × Nat × Nat × Nat)} {fr lo : Nat} {Fn : xFn} {pc : Nat} {off : Int} {t : Nat} (hd : decode cc pc = .ok (.ifnull off, 3)) (ht : (pc : Int) + off = (t : Int)) : xSnd l D dA sz0 κ cc own nL hh fr lo Fn pc (oNul t (pc + 3)) := by
  intro p e R s m args below meth c Q Rr P ls st ah k n C hfr hlo hFn hP h H locs L cells slots hH hS hL hk hn
  obtain ⟨hx, hb, hml, hown, hts, hIn, hst, hlk, htb⟩ := C
  rcases st with _ | ⟨v, st⟩
  · exact False.elim h
  cases v <;> try (simp only [oNul, iB] at h; done)
  · exact lv_ifnullN hx hb hd ht (hP _ (h.1 trivial) H locs L cells slots hH hS hL hk hn)
  · exact lv_ifnull hx hb hd (hP _ (h.2 id) H locs L cells slots hH hS hL hk hn)

theorem sn_ifnonnull {l : Launch} {D : va_G} {dA : Nat → ClassId} {sz0 : Nat} {κ : Nat → Nat} {cc : ByteArray} {own : String} {nL : Nat} {hh : List (Nat × Nat × Nat × Nat)} {fr lo : Nat} {Fn : xFn} {pc : Nat} {off : Int} {t : Nat} (hd : decode cc pc = .ok (.ifnonnull off, 3)) (ht : (pc : Int) + off = (t : Int)) : xSnd l D dA sz0 κ cc own nL hh fr lo Fn pc (oNNul t (pc + 3)) := by
  intro p e R s m args below meth c Q Rr P ls st ah k n C hfr hlo hFn hP h H locs L cells slots hH hS hL hk hn
  obtain ⟨hx, hb, hml, hown, hts, hIn, hst, hlk, htb⟩ := C
  rcases st with _ | ⟨v, st⟩
  · exact False.elim h
  cases v <;> try (simp only [oNNul, iB] at h; done)
  · exact lv_ifnonnullN hx hb hd (hP _ (h.2 id) H locs L cells slots hH hS hL hk hn)
  · exact lv_ifnonnull hx hb hd ht (hP _ (h.1 trivial) H locs L cells slots hH hS hL hk hn)

theorem sn_acmp_eq {l : Launch} {D : va_G} {dA : Nat → ClassId} {sz0 : Nat} {κ : Nat → Nat} {cc : ByteArray} {own : String} {nL : Nat} {hh : List (Nat × Nat × Nat × Nat)} {fr lo : Nat} {Fn : xFn} {pc : Nat} {off : Int} {t : Nat} (hd : decode cc pc = .ok (.if_acmp .eq off, 3)) (ht : (pc : Int) + off = (t : Int)) : xSnd l D dA sz0 κ cc own nL hh fr lo Fn pc (oAeq t (pc + 3)) := by
  intro p e R s m args below meth c Q Rr P ls st ah k n C hfr hlo hFn hP h H locs L cells slots hH hS hL hk hn
  obtain ⟨hx, hb, hml, hown, hts, hIn, hst, hlk, htb⟩ := C
  rcases st with _ | ⟨v, st⟩
  · exact False.elim h
  rcases st with _ | ⟨w, st⟩
  · exact False.elim h
  cases v <;> cases w <;> try (simp only [oAeq, iB, xrv] at h; done)
  · exact lv_acmp_eq (rx := none) (ry := none) hx hb hd ht (fun q => hP _ (h.1 q) H locs L cells slots hH hS hL hk hn) (fun q => hP _ (h.2 q) H locs L cells slots hH hS hL hk hn)
  · exact lv_acmp_eq (rx := (some _)) (ry := none) hx hb hd ht (fun q => hP _ (h.1 q) H locs L cells slots hH hS hL hk hn) (fun q => hP _ (h.2 q) H locs L cells slots hH hS hL hk hn)
  · exact lv_acmp_eq (rx := none) (ry := (some _)) hx hb hd ht (fun q => hP _ (h.1 q) H locs L cells slots hH hS hL hk hn) (fun q => hP _ (h.2 q) H locs L cells slots hH hS hL hk hn)
  · exact lv_acmp_eq (rx := (some _)) (ry := (some _)) hx hb hd ht (fun q => hP _ (h.1 q) H locs L cells slots hH hS hL hk hn) (fun q => hP _ (h.2 q) H locs L cells slots hH hS hL hk hn)

theorem sn_acmp_ne {l : Launch} {D : va_G} {dA : Nat → ClassId} {sz0 : Nat} {κ : Nat → Nat} {cc : ByteArray} {own : String} {nL : Nat} {hh : List (Nat × Nat × Nat × Nat)} {fr lo : Nat} {Fn : xFn} {pc : Nat} {off : Int} {t : Nat} (hd : decode cc pc = .ok (.if_acmp .ne off, 3)) (ht : (pc : Int) + off = (t : Int)) : xSnd l D dA sz0 κ cc own nL hh fr lo Fn pc (oAne t (pc + 3)) := by
  intro p e R s m args below meth c Q Rr P ls st ah k n C hfr hlo hFn hP h H locs L cells slots hH hS hL hk hn
  obtain ⟨hx, hb, hml, hown, hts, hIn, hst, hlk, htb⟩ := C
  rcases st with _ | ⟨v, st⟩
  · exact False.elim h
  rcases st with _ | ⟨w, st⟩
  · exact False.elim h
  cases v <;> cases w <;> try (simp only [oAne, iB, xrv] at h; done)
  · exact lv_acmp_ne (rx := none) (ry := none) hx hb hd ht (fun q => hP _ (h.1 q) H locs L cells slots hH hS hL hk hn) (fun q => hP _ (h.2 (fun z => z q)) H locs L cells slots hH hS hL hk hn)
  · exact lv_acmp_ne (rx := (some _)) (ry := none) hx hb hd ht (fun q => hP _ (h.1 q) H locs L cells slots hH hS hL hk hn) (fun q => hP _ (h.2 (fun z => z q)) H locs L cells slots hH hS hL hk hn)
  · exact lv_acmp_ne (rx := none) (ry := (some _)) hx hb hd ht (fun q => hP _ (h.1 q) H locs L cells slots hH hS hL hk hn) (fun q => hP _ (h.2 (fun z => z q)) H locs L cells slots hH hS hL hk hn)
  · exact lv_acmp_ne (rx := (some _)) (ry := (some _)) hx hb hd ht (fun q => hP _ (h.1 q) H locs L cells slots hH hS hL hk hn) (fun q => hP _ (h.2 (fun z => z q)) H locs L cells slots hH hS hL hk hn)

