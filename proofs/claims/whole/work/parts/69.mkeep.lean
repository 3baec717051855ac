/-! what the short calls keep -/
theorem MI_weather {σ : xS} (hI : MI σ) {a b : Int32} : MI (s_weather σ a b) := by
  unfold s_weather
  by_cases h : t_weather a b = 0
  · rw [xi_t h]
    have hab : xin a 51 ∧ xin b 21 := Classical.byContradiction (fun q => by
      unfold t_weather at h
      rw [xi_f q] at h
      exact absurd h (by decide))
    obtain ⟨ja, hja, rfl⟩ := xin_of (by decide) hab.1
    obtain ⟨jb, hjb, rfl⟩ := xin_of (by decide) hab.2
    simp (disch := omega) only [nI_cl]
    obtain ⟨i0, i1, i2, i3⟩ := hI
    unfold MI
    simp (disch := omega) only [su_ne, su_eq]
    exact ⟨i0, by omega, by omega, i3⟩
  · rw [xi_f h]; exact hI
theorem MI_damp {σ : xS} (hI : MI σ) {a b : Int32} : MI (s_damp σ a b) := by
  unfold s_damp
  by_cases h : t_damp σ a b = 0
  · rw [xi_t h]
    have hab : xin b 31 := Classical.byContradiction (fun q => by
      unfold t_damp at h
      by_cases q1 : xin a (σ 3 0)
      · rw [xi_t q1, xi_f q] at h
        exact absurd h (by decide)
      · rw [xi_f q1] at h
        exact absurd h (by decide))
    obtain ⟨jb, hjb, rfl⟩ := xin_of (by decide) hab
    simp (disch := omega) only [nI_cl]
    obtain ⟨i0, i1, i2, i3, i4, i5⟩ := hI
    unfold MI
    simp (disch := omega) only [su_ne]
    refine ⟨i0, i1, i2, i3, fun w hw => ⟨(i4 w hw).1, (i4 w hw).2.1, ?_⟩, i5⟩
    have := (i4 w hw).2.2
    unfold su
    split <;> omega
  · rw [xi_f h]; exact hI
