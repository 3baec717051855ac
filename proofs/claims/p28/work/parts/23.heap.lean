/-! the instructions that read and write the heap (printed by wip/gen/gen23.py) -/
theorem xfld_some {ah : xH} {a ci kf : Nat} {v : Value} (h : xfld ah a ci kf = some v) : ∃ fs, ah a = some (.inr (ci, fs)) ∧ fs[kf]? = some v := by
  unfold xfld at h
  split at h
  · next c fs hx =>
    split at h
    · next e => subst e; exact ⟨fs, hx, h⟩
    · cases h
  · cases h
theorem xai_some {ah : xH} {a t : Nat} {A : Nat × (Nat → Int32)} (h : xai ah a t = some A) : ah a = some (.inl (t, A.1, .inl A.2)) := by
  unfold xai at h
  split at h
  · next t' N f hx =>
    split at h
    · next e => cases h; subst e; exact hx
    · cases h
  · cases h
theorem xal_some {ah : xH} {a : Nat} {A : Nat × (Nat → Int64)} (h : xal ah a = some A) : ah a = some (.inl (3, A.1, .inr (.inl A.2))) := by
  unfold xal at h
  split at h
  · next N f hx => cases h; exact hx
  · cases h
theorem xad_some {ah : xH} {a : Nat} {A : Nat × (Nat → UInt64)} (h : xad ah a = some A) : ah a = some (.inl (4, A.1, .inr (.inr (.inr (.inl A.2))))) := by
  unfold xad at h
  split at h
  · next N f hx => cases h; exact hx
  · cases h
theorem xaq_some {ah : xH} {a : Nat} {A : Nat × (Nat → Option Nat)} (h : xaq ah a = some A) : ah a = some (.inl (5, A.1, .inr (.inr (.inr (.inr A.2))))) := by
  unfold xaq at h
  split at h
  · next N f hx => cases h; exact hx
  · cases h
theorem xalen_some {ah : xH} {a N : Nat} (h : xalen ah a = some N) : ∃ t x, t < 6 ∧ ah a = some (.inl (t, N, x)) := by
  unfold xalen at h
  split at h
  · next t N' x hx =>
    split at h
    · next e => cases h; exact ⟨t, x, e, hx⟩
    · cases h
  · cases h
theorem xtys_at (dA : Nat → ClassId) {t : Nat} (h : t < 6) : ∃ ty, (xtys dA)[t]? = some (dA t, ty) := by
  match t, h with
  | 0, _ => exact ⟨_, rfl⟩
  | 1, _ => exact ⟨_, rfl⟩
  | 2, _ => exact ⟨_, rfl⟩
  | 3, _ => exact ⟨_, rfl⟩
  | 4, _ => exact ⟨_, rfl⟩
  | 5, _ => exact ⟨_, rfl⟩
theorem xRA_eq {U : State} {a b : ClassId} {ty : FieldType} (h1 : va_RA U a ty) (h2 : va_RA U b ty) : a = b := by
  cases ty with
  | object C =>
    obtain ⟨_, _, _, _, _, e1⟩ := h1
    obtain ⟨_, _, _, _, _, e2⟩ := h2
    exact Option.some.inj (e1.symm.trans e2)
  | _ => exact Option.some.inj ((show U.vm.findClass _ = some a from h1).symm.trans h2)
theorem sn_getfield {l : Launch} {D : va_G} {dA : Nat → ClassId} {sz0 : Nat} {κ : Nat → Nat} {cc : ByteArray} {own : String} {nL : Nat} {hh : List (Nat × Nat × Nat × Nat)} {fr lo : Nat} {Fn : xFn} {pc : Nat} {C : String} {T : u_T} {N ci kf idx : Nat} {ref : String} (hin : ∀ w ∈ u_ws C T N, w ∈ xWds) (hc : vwCl[ci]? = some (C, T, N)) (hkf : kf < N) (hw : Cond.fieldLink own idx ref (T kf).2.1 (T kf).2.2.1 ∈ xWds) (hsm : ref = (T kf).1 ∨ Cond.sameField ref (T kf).1 (T kf).2.1 (T kf).2.2.1 ∈ xWds) (hd : decode cc pc = .ok (.getfield idx, 3)) : xSnd l D dA sz0 κ cc own nL hh fr lo Fn pc (oGet ci kf (pc + 3)) := by
  intro p e R s m args below meth c Q Rr P ls st ah k n C hfr hlo hFn hP h H locs L cells slots hH hS hL hk hn
  obtain ⟨hx, hb, hml, hown, hts, hIn, hst, hlk, htb⟩ := C
  rcases st with _ | ⟨v, st⟩
  · exact False.elim h
  cases v <;> try (simp only [oGet] at h; done)
  rename_i a
  have hsame : ∀ x, s.fieldFound? (T kf).1 (T kf).2.1 (T kf).2.2.1 = some x → s.fieldFound? ref (T kf).2.1 (T kf).2.2.1 = some x := by
    rcases hsm with e | e
    · rw [e]; exact fun _ h => h
    · exact u_same (hts _ e)
  obtain ⟨v, hv, h⟩ := h
  obtain ⟨fs, hf, hfs⟩ := xfld_some hv
  obtain ⟨ws, j, hP0, hD0, hj, -, -⟩ := xHR_at hH hf
  exact va_get hx hb hts hin hown hIn.2.1 hP0 j hj hc kf hkf (hts _ hw) hsame hfs hd (hP _ h H locs L cells slots hH hS hL hk hn)

theorem sn_putfield {l : Launch} {D : va_G} {dA : Nat → ClassId} {sz0 : Nat} {κ : Nat → Nat} {cc : ByteArray} {own : String} {nL : Nat} {hh : List (Nat × Nat × Nat × Nat)} {fr lo : Nat} {Fn : xFn} {pc : Nat} {C : String} {T : u_T} {N ci kf idx : Nat} {ref : String} (hin : ∀ w ∈ u_ws C T N, w ∈ xWds) (hc : vwCl[ci]? = some (C, T, N)) (hkf : kf < N) (hw : Cond.fieldLink own idx ref (T kf).2.1 (T kf).2.2.1 ∈ xWds) (hsm : ref = (T kf).1 ∨ Cond.sameField ref (T kf).1 (T kf).2.1 (T kf).2.2.1 ∈ xWds) {tys : Nat → FieldType} {ty : FieldType} (hty : ∀ k, k < N → parseFieldDescriptor (T k).2.2.1 = some (tys k)) (hnm : ∀ a, a < N → ∀ b, b < N → a ≠ b → (T a).2.1 ≠ (T b).2.1) (hfin : (T kf).2.2.2 = false) (ht : tys kf = ty) (hd : decode cc pc = .ok (.putfield idx, 3)) : xSnd l D dA sz0 κ cc own nL hh fr lo Fn pc (oPut ci kf ty (pc + 3)) := by
  intro p e R s m args below meth c Q Rr P ls st ah k n C hfr hlo hFn hP h H locs L cells slots hH hS hL hk hn
  obtain ⟨hx, hb, hml, hown, hts, hIn, hst, hlk, htb⟩ := C
  rcases st with _ | ⟨v, st⟩
  · exact False.elim h
  rcases st with _ | ⟨w, st⟩
  · exact False.elim h
  cases w <;> try (simp only [oPut] at h; done)
  rename_i a
  obtain ⟨hs, ⟨hn1, hn2⟩, h⟩ := h
  have hsame : ∀ x, s.fieldFound? (T kf).1 (T kf).2.1 (T kf).2.2.1 = some x → s.fieldFound? ref (T kf).2.1 (T kf).2.2.1 = some x := by
    rcases hsm with e | e
    · rw [e]; exact fun _ h => h
    · exact u_same (hts _ e)
  obtain ⟨v0, hv⟩ := Option.isSome_iff_exists.mp hs
  obtain ⟨fs, hf, hfs⟩ := xfld_some hv
  obtain ⟨ws, j, hP0, hD0, hj, -, hgo⟩ := xHR_at hH hf
  have hput : xput ah a kf v = xup ah a (.inr (ci, fs.set kf v)) := by unfold xput; rw [hf]
  rw [hput] at h
  exact va_put hx hb hts hin tys hty hnm hown hIn.2.1 hP0 hD0 hS j hj hc kf hkf (hts _ hw) hsame hfin (by rw [hty kf hkf, ht]) hn1 hn2 (List.getElem?_eq_some_iff.mp hfs).1 hd (fun H1 locs1 hP1 hD1 hS1 => hP _ h H1 locs1 L cells slots (hgo _ _ hP1 hD1) hS1 hL hk hn)

theorem sn_putfieldF {l : Launch} {D : va_G} {dA : Nat → ClassId} {sz0 : Nat} {κ : Nat → Nat} {cc : ByteArray} {own : String} {nL : Nat} {hh : List (Nat × Nat × Nat × Nat)} {fr lo : Nat} {Fn : xFn} {pc : Nat} {C : String} {T : u_T} {N ci kf idx : Nat} {ref : String} (hin : ∀ w ∈ u_ws C T N, w ∈ xWds) (hc : vwCl[ci]? = some (C, T, N)) (hkf : kf < N) (hw : Cond.fieldLink own idx ref (T kf).2.1 (T kf).2.2.1 ∈ xWds) (hsm : ref = (T kf).1 ∨ Cond.sameField ref (T kf).1 (T kf).2.1 (T kf).2.2.1 ∈ xWds) {tys : Nat → FieldType} {ty : FieldType} (hty : ∀ k, k < N → parseFieldDescriptor (T k).2.2.1 = some (tys k)) (hnm : ∀ a, a < N → ∀ b, b < N → a ≠ b → (T a).2.1 ≠ (T b).2.1) (hfin : (T kf).2.2.2 = true) (howF : (T kf).1 = own) (hini : ∀ R s args below meth Rr Q, Fn R s args below meth Rr Q → meth.name = "<init>") (ht : tys kf = ty) (hd : decode cc pc = .ok (.putfield idx, 3)) : xSnd l D dA sz0 κ cc own nL hh fr lo Fn pc (oPut ci kf ty (pc + 3)) := by
  intro p e R s m args below meth c Q Rr P ls st ah k n C hfr hlo hFn hP h H locs L cells slots hH hS hL hk hn
  obtain ⟨hx, hb, hml, hown, hts, hIn, hst, hlk, htb⟩ := C
  rcases st with _ | ⟨v, st⟩
  · exact False.elim h
  rcases st with _ | ⟨w, st⟩
  · exact False.elim h
  cases w <;> try (simp only [oPut] at h; done)
  rename_i a
  obtain ⟨hs, ⟨hn1, hn2⟩, h⟩ := h
  have hsame : ∀ x, s.fieldFound? (T kf).1 (T kf).2.1 (T kf).2.2.1 = some x → s.fieldFound? ref (T kf).2.1 (T kf).2.2.1 = some x := by
    rcases hsm with e | e
    · rw [e]; exact fun _ h => h
    · exact u_same (hts _ e)
  obtain ⟨v0, hv⟩ := Option.isSome_iff_exists.mp hs
  obtain ⟨fs, hf, hfs⟩ := xfld_some hv
  obtain ⟨ws, j, hP0, hD0, hj, -, hgo⟩ := xHR_at hH hf
  have hput : xput ah a kf v = xup ah a (.inr (ci, fs.set kf v)) := by unfold xput; rw [hf]
  rw [hput] at h
  exact va_putF hx hb hts hin tys hty hnm hown hIn.2.1 hP0 hD0 hS j hj hc kf hkf (hts _ hw) hsame hfin (hini R s args below meth Rr Q hFn) howF (by rw [hty kf hkf, ht]) hn1 hn2 (List.getElem?_eq_some_iff.mp hfs).1 hd (fun H1 locs1 hP1 hD1 hS1 => hP _ h H1 locs1 L cells slots (hgo _ _ hP1 hD1) hS1 hL hk hn)

theorem sn_cast {l : Launch} {D : va_G} {dA : Nat → ClassId} {sz0 : Nat} {κ : Nat → Nat} {cc : ByteArray} {own : String} {nL : Nat} {hh : List (Nat × Nat × Nat × Nat)} {fr lo : Nat} {Fn : xFn} {pc : Nat} {C nm : String} {T : u_T} {N ci idx : Nat} (hc : vwCl[ci]? = some (C, T, N)) (hw : Cond.classLink own idx nm ∈ xWds) (hq : (C, nm) ∈ xCasts) (hd : decode cc pc = .ok (.checkcast idx, 3)) : xSnd l D dA sz0 κ cc own nL hh fr lo Fn pc (oCast ci (pc + 3)) := by
  intro p e R s m args below meth c Q Rr P ls st ah k n C hfr hlo hFn hP h H locs L cells slots hH hS hL hk hn
  obtain ⟨hx, hb, hml, hown, hts, hIn, hst, hlk, htb⟩ := C
  rcases st with _ | ⟨v, st⟩
  · exact False.elim h
  cases v <;> try (simp only [oCast] at h; done)
  · exact lv_castN hx hb hd (hP _ h H locs L cells slots hH hS hL hk hn)
  · obtain ⟨⟨fs, hf⟩, h⟩ := h
    obtain ⟨ws, j, hP0, hD0, hj, -, -⟩ := xHR_at hH hf
    exact va_castY hx hb hown (hts _ hw) (hIn.2.2.2.1 _ hq) (va_recv hIn.2.1 hP0 hc hj) hd (hP _ h H locs L cells slots hH hS hL hk hn)

theorem sn_iaload {l : Launch} {D : va_G} {dA : Nat → ClassId} {sz0 : Nat} {κ : Nat → Nat} {cc : ByteArray} {own : String} {nL : Nat} {hh : List (Nat × Nat × Nat × Nat)} {fr lo : Nat} {Fn : xFn} {pc : Nat} (hd : decode cc pc = .ok (.iaload, 1)) : xSnd l D dA sz0 κ cc own nL hh fr lo Fn pc (oIald 0 (pc + 1)) := by
  intro p e R s m args below meth c Q Rr P ls st ah k n C hfr hlo hFn hP h H locs L cells slots hH hS hL hk hn
  obtain ⟨hx, hb, hml, hown, hts, hIn, hst, hlk, htb⟩ := C
  rcases st with _ | ⟨v, st⟩
  · exact False.elim h
  cases v <;> try (simp only [oIald] at h; done)
  rename_i i
  rcases st with _ | ⟨v, st⟩
  · exact False.elim h
  cases v <;> try (simp only [oIald] at h; done)
  rename_i a
  obtain ⟨A, hA, hin, h⟩ := h
  have hf := xai_some hA
  obtain ⟨ws, j, hP0, hD0, hj, -, -⟩ := xHR_at hH hf
  exact va_iald hx hb hIn.2.1 hP0 j 0 hj rfl hin hd (hP _ h H locs L cells slots hH hS hL hk hn)

theorem sn_baload {l : Launch} {D : va_G} {dA : Nat → ClassId} {sz0 : Nat} {κ : Nat → Nat} {cc : ByteArray} {own : String} {nL : Nat} {hh : List (Nat × Nat × Nat × Nat)} {fr lo : Nat} {Fn : xFn} {pc : Nat} (hd : decode cc pc = .ok (.baload, 1)) : xSnd l D dA sz0 κ cc own nL hh fr lo Fn pc (oIald 2 (pc + 1)) := by
  intro p e R s m args below meth c Q Rr P ls st ah k n C hfr hlo hFn hP h H locs L cells slots hH hS hL hk hn
  obtain ⟨hx, hb, hml, hown, hts, hIn, hst, hlk, htb⟩ := C
  rcases st with _ | ⟨v, st⟩
  · exact False.elim h
  cases v <;> try (simp only [oIald] at h; done)
  rename_i i
  rcases st with _ | ⟨v, st⟩
  · exact False.elim h
  cases v <;> try (simp only [oIald] at h; done)
  rename_i a
  obtain ⟨A, hA, hin, h⟩ := h
  have hf := xai_some hA
  obtain ⟨ws, j, hP0, hD0, hj, -, -⟩ := xHR_at hH hf
  exact va_bald hx hb hIn.2.1 hP0 j 2 hj rfl hin hd (hP _ h H locs L cells slots hH hS hL hk hn)

theorem sn_aaload {l : Launch} {D : va_G} {dA : Nat → ClassId} {sz0 : Nat} {κ : Nat → Nat} {cc : ByteArray} {own : String} {nL : Nat} {hh : List (Nat × Nat × Nat × Nat)} {fr lo : Nat} {Fn : xFn} {pc : Nat} (hd : decode cc pc = .ok (.aaload, 1)) : xSnd l D dA sz0 κ cc own nL hh fr lo Fn pc (oAald (pc + 1)) := by
  intro p e R s m args below meth c Q Rr P ls st ah k n C hfr hlo hFn hP h H locs L cells slots hH hS hL hk hn
  obtain ⟨hx, hb, hml, hown, hts, hIn, hst, hlk, htb⟩ := C
  rcases st with _ | ⟨v, st⟩
  · exact False.elim h
  cases v <;> try (simp only [oAald] at h; done)
  rename_i i
  rcases st with _ | ⟨v, st⟩
  · exact False.elim h
  cases v <;> try (simp only [oAald] at h; done)
  rename_i a
  obtain ⟨A, hA, hin, h⟩ := h
  have hf := xaq_some hA
  obtain ⟨ws, j, hP0, hD0, hj, -, -⟩ := xHR_at hH hf
  exact va_aldq hx hb hIn.2.1 hP0 j 5 hj rfl hin hd (hP _ h H locs L cells slots hH hS hL hk hn)

theorem sn_alen {l : Launch} {D : va_G} {dA : Nat → ClassId} {sz0 : Nat} {κ : Nat → Nat} {cc : ByteArray} {own : String} {nL : Nat} {hh : List (Nat × Nat × Nat × Nat)} {fr lo : Nat} {Fn : xFn} {pc : Nat} (hd : decode cc pc = .ok (.arraylength, 1)) : xSnd l D dA sz0 κ cc own nL hh fr lo Fn pc (oLen (pc + 1)) := by
  intro p e R s m args below meth c Q Rr P ls st ah k n C hfr hlo hFn hP h H locs L cells slots hH hS hL hk hn
  obtain ⟨hx, hb, hml, hown, hts, hIn, hst, hlk, htb⟩ := C
  rcases st with _ | ⟨v, st⟩
  · exact False.elim h
  cases v <;> try (simp only [oLen] at h; done)
  rename_i a
  obtain ⟨A, hA, h⟩ := h
  obtain ⟨t, x, ht, hf⟩ := xalen_some hA
  obtain ⟨ws, j, hP0, hD0, hj, -, -⟩ := xHR_at hH hf
  obtain ⟨ty, hty⟩ := xtys_at dA ht
  exact va_alen hx hb hIn.2.1 hP0 j t hj hty rfl hd (hP _ h H locs L cells slots hH hS hL hk hn)

theorem sn_iastore {l : Launch} {D : va_G} {dA : Nat → ClassId} {sz0 : Nat} {κ : Nat → Nat} {cc : ByteArray} {own : String} {nL : Nat} {hh : List (Nat × Nat × Nat × Nat)} {fr lo : Nat} {Fn : xFn} {pc : Nat} (hd : decode cc pc = .ok (.iastore, 1)) : xSnd l D dA sz0 κ cc own nL hh fr lo Fn pc (oIast 0 (fun x => x) (pc + 1)) := by
  intro p e R s m args below meth c Q Rr P ls st ah k n C hfr hlo hFn hP h H locs L cells slots hH hS hL hk hn
  obtain ⟨hx, hb, hml, hown, hts, hIn, hst, hlk, htb⟩ := C
  rcases st with _ | ⟨v, st⟩
  · exact False.elim h
  cases v <;> try (simp only [oIast] at h; done)
  rename_i x
  rcases st with _ | ⟨v, st⟩
  · exact False.elim h
  cases v <;> try (simp only [oIast] at h; done)
  rename_i i
  rcases st with _ | ⟨v, st⟩
  · exact False.elim h
  cases v <;> try (simp only [oIast] at h; done)
  rename_i a
  obtain ⟨A, hA, hin, h⟩ := h
  have hf := xai_some hA
  obtain ⟨ws, j, hP0, hD0, hj, -, hgo⟩ := xHR_at hH hf
  exact va_iast hx hb hIn.2.1 hP0 hD0 hS j 0 hj rfl hin hd (fun H1 locs1 hP1 hD1 hS1 => hP _ h H1 locs1 L cells slots (hgo (.inl (0, A.1, .inl (upd A.2 i.toNatClampNeg ((fun x => x) x)))) _ hP1 hD1) hS1 hL hk hn)

theorem sn_bastore {l : Launch} {D : va_G} {dA : Nat → ClassId} {sz0 : Nat} {κ : Nat → Nat} {cc : ByteArray} {own : String} {nL : Nat} {hh : List (Nat × Nat × Nat × Nat)} {fr lo : Nat} {Fn : xFn} {pc : Nat} (hd : decode cc pc = .ok (.bastore, 1)) : xSnd l D dA sz0 κ cc own nL hh fr lo Fn pc (oIast 2 (vp_nar .byte) (pc + 1)) := by
  intro p e R s m args below meth c Q Rr P ls st ah k n C hfr hlo hFn hP h H locs L cells slots hH hS hL hk hn
  obtain ⟨hx, hb, hml, hown, hts, hIn, hst, hlk, htb⟩ := C
  rcases st with _ | ⟨v, st⟩
  · exact False.elim h
  cases v <;> try (simp only [oIast] at h; done)
  rename_i x
  rcases st with _ | ⟨v, st⟩
  · exact False.elim h
  cases v <;> try (simp only [oIast] at h; done)
  rename_i i
  rcases st with _ | ⟨v, st⟩
  · exact False.elim h
  cases v <;> try (simp only [oIast] at h; done)
  rename_i a
  obtain ⟨A, hA, hin, h⟩ := h
  have hf := xai_some hA
  obtain ⟨ws, j, hP0, hD0, hj, -, hgo⟩ := xHR_at hH hf
  exact va_bast hx hb hIn.2.1 hP0 hD0 hS j 2 hj rfl hin hd (fun H1 locs1 hP1 hD1 hS1 => hP _ h H1 locs1 L cells slots (hgo (.inl (2, A.1, .inl (upd A.2 i.toNatClampNeg ((vp_nar .byte) x)))) _ hP1 hD1) hS1 hL hk hn)

theorem sn_new {l : Launch} {D : va_G} {dA : Nat → ClassId} {sz0 : Nat} {κ : Nat → Nat} {cc : ByteArray} {own : String} {nL : Nat} {hh : List (Nat × Nat × Nat × Nat)} {fr lo : Nat} {Fn : xFn} {pc : Nat} {C : String} {T : u_T} {N ci idx : Nat} {fs : List Value} {tys : Nat → FieldType} (hin : ∀ w ∈ u_ws C T N, w ∈ xWds) (hc : vwCl[ci]? = some (C, T, N)) (hty : ∀ k, k < N → parseFieldDescriptor (T k).2.2.1 = some (tys k)) (hw : Cond.classLink own idx C ∈ xWds) (hw2 : Cond.instantiable C N ∈ xWds) (hw3 : Cond.initialized C ∈ xWds) (hfs : ∀ j, j < N → defaultValue (tys j) = vp_V fs j) (hd : decode cc pc = .ok (.new idx, 3)) : xSnd l D dA sz0 κ cc own nL hh fr lo Fn pc (oNew ci fs N (pc + 3)) := by
  intro p e R s m args below meth c Q Rr P ls st ah k n C hfr hlo hFn hP h H locs L cells slots hH hS hL hk hn
  obtain ⟨hx, hb, hml, hown, hts, hIn, hst, hlk, htb⟩ := C
  obtain ⟨-, hk1, hn1, h⟩ := h
  obtain ⟨ws, hP0, hD0, hgo⟩ := xHR_new hH
  have hA : ∀ q, s.heap.size ≤ q → xA sz0 q := fun q hq => Nat.le_trans hIn.1 hq
  dsimp only at hk hn hk1 hn1
  exact va_new hx hb hts hin tys hty hown (hts _ hw) (hts _ hw2) (hts _ hw3) hIn.2.1 hP0 hD0 hS hA hc hfs (by omega) (by omega) hd (fun q H1 hP1 hD1 hS1 => by
    obtain ⟨hq, hH1⟩ := hgo q (.inr (ci, fs)) H1 hP1 hD1
    exact hP _ (h q hq) H1 locs L _ _ hH1 hS1 hL (by dsimp only; omega) (by dsimp only; omega))

theorem sn_newI {l : Launch} {D : va_G} {dA : Nat → ClassId} {sz0 : Nat} {κ : Nat → Nat} {cc : ByteArray} {own : String} {nL : Nat} {hh : List (Nat × Nat × Nat × Nat)} {fr lo : Nat} {Fn : xFn} {pc : Nat} (hw : Cond.arrayClass .int ∈ xWds) (hd : decode cc pc = .ok (.newarray .int, 2)) : xSnd l D dA sz0 κ cc own nL hh fr lo Fn pc (oNewI 0 4 (pc + 2)) := by
  intro p e R s m args below meth c Q Rr P ls st ah k n C hfr hlo hFn hP h H locs L cells slots hH hS hL hk hn
  obtain ⟨hx, hb, hml, hown, hts, hIn, hst, hlk, htb⟩ := C
  rcases st with _ | ⟨v, st⟩
  · exact False.elim h
  cases v <;> try (simp only [oNewI, iN] at h; done)
  rename_i z
  obtain ⟨⟨hz, hby⟩, hk1, hn1, h⟩ := h
  obtain ⟨ws, hP0, hD0, hgo⟩ := xHR_new hH
  have hA : ∀ q, s.heap.size ≤ q → xA sz0 q := fun q hq => Nat.le_trans hIn.1 hq
  dsimp only at hk hn hk1 hn1
  exact va_newa (atype := .int) (a0 := (z.toNatClampNeg, .inl fun _ => 0)) hx hb (hts _ hw) rfl hIn.2.1 hP0 hD0 hS hA (fun _ => rfl) hz rfl hby (by omega) (by omega) hd (fun q cA H1 hK1 hP1 hD1 hS1 => by
    have ecA : cA = dA 0 := xRA_eq (hK1.2 6 (cA, .int) rfl).2 (hIn.2.1.2 0 (dA 0, .int) rfl).2
    subst ecA
    obtain ⟨hq, hH1⟩ := hgo q (.inl (0, z.toNatClampNeg, .inl fun _ => 0)) H1 hP1 hD1
    exact hP _ (h q hq) H1 locs L _ _ hH1 hS1 hL (by dsimp only; omega) (by dsimp only; omega))

theorem sn_newB {l : Launch} {D : va_G} {dA : Nat → ClassId} {sz0 : Nat} {κ : Nat → Nat} {cc : ByteArray} {own : String} {nL : Nat} {hh : List (Nat × Nat × Nat × Nat)} {fr lo : Nat} {Fn : xFn} {pc : Nat} (hw : Cond.arrayClass .byte ∈ xWds) (hd : decode cc pc = .ok (.newarray .byte, 2)) : xSnd l D dA sz0 κ cc own nL hh fr lo Fn pc (oNewI 2 1 (pc + 2)) := by
  intro p e R s m args below meth c Q Rr P ls st ah k n C hfr hlo hFn hP h H locs L cells slots hH hS hL hk hn
  obtain ⟨hx, hb, hml, hown, hts, hIn, hst, hlk, htb⟩ := C
  rcases st with _ | ⟨v, st⟩
  · exact False.elim h
  cases v <;> try (simp only [oNewI, iN] at h; done)
  rename_i z
  obtain ⟨⟨hz, hby⟩, hk1, hn1, h⟩ := h
  obtain ⟨ws, hP0, hD0, hgo⟩ := xHR_new hH
  have hA : ∀ q, s.heap.size ≤ q → xA sz0 q := fun q hq => Nat.le_trans hIn.1 hq
  dsimp only at hk hn hk1 hn1
  exact va_newa (atype := .byte) (a0 := (z.toNatClampNeg, .inl fun _ => 0)) hx hb (hts _ hw) rfl hIn.2.1 hP0 hD0 hS hA (fun _ => rfl) hz rfl hby (by omega) (by omega) hd (fun q cA H1 hK1 hP1 hD1 hS1 => by
    have ecA : cA = dA 2 := xRA_eq (hK1.2 6 (cA, .byte) rfl).2 (hIn.2.1.2 2 (dA 2, .byte) rfl).2
    subst ecA
    obtain ⟨hq, hH1⟩ := hgo q (.inl (2, z.toNatClampNeg, .inl fun _ => 0)) H1 hP1 hD1
    exact hP _ (h q hq) H1 locs L _ _ hH1 hS1 hL (by dsimp only; omega) (by dsimp only; omega))

theorem sn_newQ {l : Launch} {D : va_G} {dA : Nat → ClassId} {sz0 : Nat} {κ : Nat → Nat} {cc : ByteArray} {own : String} {nL : Nat} {hh : List (Nat × Nat × Nat × Nat)} {fr lo : Nat} {Fn : xFn} {pc : Nat} {idx : Nat} (hw : Cond.classLink own idx "java/lang/Object" ∈ xWds) (hd : decode cc pc = .ok (.anewarray idx, 3)) : xSnd l D dA sz0 κ cc own nL hh fr lo Fn pc (oNewQ (pc + 3)) := by
  intro p e R s m args below meth c Q Rr P ls st ah k n C hfr hlo hFn hP h H locs L cells slots hH hS hL hk hn
  obtain ⟨hx, hb, hml, hown, hts, hIn, hst, hlk, htb⟩ := C
  rcases st with _ | ⟨v, st⟩
  · exact False.elim h
  cases v <;> try (simp only [oNewQ, iN] at h; done)
  rename_i z
  obtain ⟨⟨hz, hby⟩, hk1, hn1, h⟩ := h
  obtain ⟨ws, hP0, hD0, hgo⟩ := xHR_new hH
  have hA : ∀ q, s.heap.size ≤ q → xA sz0 q := fun q hq => Nat.le_trans hIn.1 hq
  dsimp only at hk hn hk1 hn1
  exact va_newq hx hb hown (hts _ hw) hIn.2.2.2.2.2.2.2.2.1 hIn.2.1 hP0 hD0 hS hA hz rfl hby (by omega) (by omega) hd (fun q cA H1 hK1 hP1 hD1 hS1 => by
    have ecA : cA = dA 5 := xRA_eq (hK1.2 6 (cA, .object "java/lang/Object") rfl).2 (hIn.2.1.2 5 (dA 5, .object "java/lang/Object") rfl).2
    subst ecA
    obtain ⟨hq, hH1⟩ := hgo q (.inl (5, z.toNatClampNeg, .inr (.inr (.inr (.inr fun _ => none))))) H1 hP1 hD1
    exact hP _ (h q hq) H1 locs L _ _ hH1 hS1 hL (by dsimp only; omega) (by dsimp only; omega))

theorem sn_objInit {l : Launch} {D : va_G} {dA : Nat → ClassId} {sz0 : Nat} {κ : Nat → Nat} {cc : ByteArray} {own : String} {nL : Nat} {hh : List (Nat × Nat × Nat × Nat)} {fr lo : Nat} {Fn : xFn} {pc : Nat} {idx : Nat} (hw : Cond.methodLink own idx objectInit ∈ xWds) (hw2 : Cond.instanceMethod objectInit ∈ xWds) (hw3 : Cond.code objectInit ⟨#[0xb1]⟩ 1 none ∈ xWds) (hfr1 : 1 ≤ fr) (hlo1 : 12 ≤ lo) (hd : decode cc pc = .ok (.invokespecial idx, 3)) : xSnd l D dA sz0 κ cc own nL hh fr lo Fn pc (oObj (pc + 3)) := by
  intro p e R s m args below meth c Q Rr P ls st ah k n C hfr hlo hFn hP h H locs L cells slots hH hS hL hk hn
  obtain ⟨hx, hb, hml, hown, hts, hIn, hst, hlk, htb⟩ := C
  rcases st with _ | ⟨v, st⟩
  · exact False.elim h
  rcases st with _ | ⟨w, st⟩
  · cases v <;> try (simp only [oObj, iS] at h; done)
    rename_i a
    refine W.objInit hx hb hown (hts _ hw) (hts _ hw2) (hts _ hw3) rfl ((hL.1).trans hml.symm) rfl hd (by omega) ?_ ?_
    · show 2 * 0 + 0 + 12 ≤ R.locals
      omega
    · exact hP _ h H locs L cells slots hH hS hL hk hn
  · cases v <;> exact False.elim h

