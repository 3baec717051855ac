/-! what the short calls keep -/
theorem MI_weather {σ : xS} (hI : MI σ) {a b : Int32} : MI (s_weather σ a b) := by
  unfold s_weather
  by_cases h : t_weather a b = 0
  · rw [xi_t h]
    have hab : xin a 51 ∧ xin b 21 := Classical.byContradiction (fun q => by
      unfold t_weather at h
      rw [xi_f q] at h
      exact absurd h (by decide))
    obtain ⟨ja, hja, rfl⟩ := xin_of (by decide) hab.1
    obtain ⟨jb, hjb, rfl⟩ := xin_of (by decide) hab.2
    simp (disch := omega) only [nI_cl]
    obtain ⟨i0, i1, i2, i3⟩ := hI
    unfold MI
    simp (disch := omega) only [su_ne, su_eq]
    exact ⟨i0, by omega, by omega, i3⟩
  · rw [xi_f h]; exact hI
theorem MI_damp {σ : xS} (hI : MI σ) {a b : Int32} : MI (s_damp σ a b) := by
  unfold s_damp
  by_cases h : t_damp σ a b = 0
  · rw [xi_t h]
    have hab : xin b 31 := Classical.byContradiction (fun q => by
      unfold t_damp at h
      by_cases q1 : xin a (σ 3 0)
      · rw [xi_t q1, xi_f q] at h
        exact absurd h (by decide)
      · rw [xi_f q1] at h
        exact absurd h (by decide))
    obtain ⟨jb, hjb, rfl⟩ := xin_of (by decide) hab
    simp (disch := omega) only [nI_cl]
    obtain ⟨i0, i1, i2, i3, i4, i5⟩ := hI
    unfold MI
    simp (disch := omega) only [su_ne]
    refine ⟨i0, i1, i2, i3, fun w hw => ⟨(i4 w hw).1, (i4 w hw).2.1, ?_⟩, i5⟩
    have := (i4 w hw).2.2
    unfold su
    split <;> omega
  · rw [xi_f h]; exact hI
theorem MI_joint {σ : xS} (hI : MI σ) {a b : Int32} : MI (s_joint σ a b) := by
  unfold s_joint
  by_cases h : t_joint σ a b = 0
  · rw [xi_t h]
    obtain ⟨i0, i1, i2, i3, i4, i5, i6, i7⟩ := hI
    unfold MI
    simp (disch := omega) only [su_ne]
    refine ⟨i0, i1, i2, i3, i4, i5, fun c hc => ⟨?_, (i6 c hc).2⟩, i7⟩
    have := (i6 c hc).1
    unfold su
    split <;> omega
  · rw [xi_f h]; exact hI
theorem MI_strike {σ : xS} (hI : MI σ) {a b : Int32} : MI (s_strike σ a b) := by
  unfold s_strike
  by_cases h : t_strike σ a b = 0
  · rw [xi_t h]
    obtain ⟨i0, i1, i2, i3, i4, i5, i6, i7, i8, i9, i10, i11, i12, i13, i14, i15, i16, i17⟩ := hI
    unfold MI
    simp (disch := omega) only [su_ne]
    refine ⟨i0, i1, i2, i3, i4, i5, fun c hc => ⟨(i6 c hc).1, ?_⟩, i7, i8, i9, i10, i11, i12, i13, i14, i15, i16, fun w s hw hs ho => ?_⟩
    · have := (i6 c hc).2
      unfold su
      split
      · rename_i q
        rw [← q.2]
        omega
      · exact this
    · have := i17 w s hw hs ho
      unfold su
      split
      · rename_i q
        rw [← q.2]
        omega
      · exact this
  · rw [xi_f h]; exact hI
theorem MI_window {σ : xS} (hI : MI σ) {a b : Int32} : MI (s_window σ a b) := by
  unfold s_window
  by_cases h : t_window a b = 0
  · rw [xi_t h]
    have hab : xin b 4 := Classical.byContradiction (fun q => by
      unfold t_window at h
      by_cases q1 : xin a 10
      · rw [xi_t q1, xi_f q] at h
        exact absurd h (by decide)
      · rw [xi_f q1] at h
        exact absurd h (by decide))
    obtain ⟨jb, hjb, rfl⟩ := xin_of (by decide) hab
    simp (disch := omega) only [nI_cl]
    obtain ⟨i0, i1, i2, i3, i4, i5, i6, i7, i8, i9, i10, i11, i12, i13, i14⟩ := hI
    unfold MI
    simp (disch := omega) only [su_ne]
    refine ⟨i0, i1, i2, i3, i4, i5, i6, i7, i8, i9, i10, i11, i12, fun g hg => ?_, i14⟩
    have := i13 g hg
    unfold su
    split <;> omega
  · rw [xi_f h]; exact hI
