/-! what walls and profiles keep -/
theorem MI_wall {σ : xS} (hI : MI σ) {a b : Int32} : MI (s_wall σ a b) := by
  unfold s_wall
  by_cases h : t_wall σ a b = 0
  · rw [xi_t h]
    unfold t_wall at h
    have hab : xrg a 1 12 ∧ xin b 3 := Classical.byContradiction (fun q => by
      rw [xi_f q] at h
      exact absurd h (by decide))
    rw [xi_t hab] at h
    have hw : ¬ σ 3 0 = 10 := fun q => by
      rw [xi_t q] at h
      exact absurd h (by decide)
    obtain ⟨ja, hja, hja2, rfl⟩ := xrg_of (by decide) hab.1
    obtain ⟨jb, hjb, rfl⟩ := xin_of (by decide) hab.2
    simp (disch := omega) only [nI_cl]
    obtain ⟨i0, i1, i2, i3, i4, i5, i6, i7, i8, i9, i10, i11, i12, i13, i14, i15, i16, i17⟩ := hI
    have e4 : ∀ w, su (su (su σ 4 (σ 3 0) ja) 5 (σ 3 0) jb) 3 0 (σ 3 0 + 1) 4 w = if w = σ 3 0 then ja else σ 4 w := fun w => by
      rw [su_ne (by omega), su_ne (by omega)]
      unfold su
      simp only [true_and]
    have e5 : ∀ w, su (su (su σ 4 (σ 3 0) ja) 5 (σ 3 0) jb) 3 0 (σ 3 0 + 1) 5 w = if w = σ 3 0 then jb else σ 5 w := fun w => by
      rw [su_ne (by omega)]
      unfold su
      simp only [true_and, Nat.reduceEqDiff, false_and, if_false]
    have e3 : su (su (su σ 4 (σ 3 0) ja) 5 (σ 3 0) jb) 3 0 (σ 3 0 + 1) 3 0 = σ 3 0 + 1 := su_eq
    unfold MI
    simp only [e4, e5, e3]
    simp (disch := omega) only [su_ne]
    refine ⟨i0, i1, i2, by omega, fun w hw => ?_, fun w hw => ?_, i6, i7, i8, i9, i10, i11, i12, i13, i14, i15, i16, fun w s hw hs ho => i17 w s hw hs (fun q => ho ?_)⟩
    · have := i4 w hw
      split <;> omega
    · split
      · exact hja
      · exact i5 w (by omega)
    · rw [if_neg (by omega)]
      exact ⟨by omega, q.2⟩
  · rw [xi_f h]; exact hI
theorem MI_profile {σ : xS} (hI : MI σ) {a : Int32} : MI (s_profile σ a) := by
  unfold s_profile
  by_cases h : t_profile σ a = 0
  · rw [xi_t h]
    unfold t_profile at h
    have ha : xrg a 1 100 := Classical.byContradiction (fun q => by
      rw [xi_f q] at h
      exact absurd h (by decide))
    rw [xi_t ha] at h
    have hp : ¬ σ 16 0 = 10 := fun q => by
      rw [xi_t q] at h
      exact absurd h (by decide)
    obtain ⟨ja, hja, hja2, rfl⟩ := xrg_of (by decide) ha
    simp (disch := omega) only [nI_cl]
    obtain ⟨i0, i1, i2, i3, i4, i5, i6, i7, i8, i9, i10, i11, i12, i13, i14, i15, i16, i17⟩ := hI
    have e18 : ∀ d, su (su (su σ 18 (8 * σ 16 0) ja) 17 (σ 16 0) 1) 16 0 (σ 16 0 + 1) 18 d = if d = 8 * σ 16 0 then ja else σ 18 d := fun d => by
      rw [su_ne (by omega), su_ne (by omega)]
      unfold su
      simp only [true_and]
    have e17 : ∀ d, su (su (su σ 18 (8 * σ 16 0) ja) 17 (σ 16 0) 1) 16 0 (σ 16 0 + 1) 17 d = if d = σ 16 0 then 1 else σ 17 d := fun d => by
      rw [su_ne (by omega)]
      unfold su
      simp only [true_and, Nat.reduceEqDiff, false_and, if_false]
    have e16 : su (su (su σ 18 (8 * σ 16 0) ja) 17 (σ 16 0) 1) 16 0 (σ 16 0 + 1) 16 0 = σ 16 0 + 1 := su_eq
    unfold MI
    simp only [e18, e17, e16]
    simp (disch := omega) only [su_ne]
    refine ⟨i0, i1, i2, i3, i4, i5, i6, i7, by omega, fun p hp => ?_, fun p hp => ?_, fun d hd => ?_, fun p i hp hi => ?_, i13, i14, i15, i16, i17⟩
    · have := i9 p hp
      split <;> omega
    · split
      · exact Nat.le_refl 1
      · exact i10 p (by omega)
    · have := i11 d hd
      split <;> omega
    · by_cases e : p = σ 16 0
      · rw [if_pos e] at hi
        rw [if_pos (by omega)]
        exact hja
      · rw [if_neg e] at hi
        have h8 := i9 p (by omega)
        rw [if_neg (by omega)]
        exact i12 p i (by omega) hi
  · rw [xi_f h]; exact hI
theorem MI_depth {σ : xS} (hI : MI σ) {a b : Int32} : MI (s_depth σ a b) := by
  unfold s_depth
  by_cases h : t_depth σ a b = 0
  · rw [xi_t h]
    have hP := hI.P
    unfold t_depth at h
    have ha : xin a (σ 16 0) := Classical.byContradiction (fun q => by
      rw [xi_f q] at h
      exact absurd h (by decide))
    rw [xi_t ha] at h
    have hb : xrg b 1 100 := Classical.byContradiction (fun q => by
      rw [xi_f q] at h
      exact absurd h (by decide))
    rw [xi_t hb] at h
    obtain ⟨p, hp, rfl⟩ := xin_of (by omega) ha
    obtain ⟨jb, hjb, hjb2, rfl⟩ := xrg_of (by decide) hb
    rw [nI_cl (by omega)] at h ⊢
    rw [nI_cl (by omega)]
    have h8 : ¬ σ 17 p = 8 := fun q => by
      rw [xi_t q] at h
      exact absurd h (by decide)
    obtain ⟨i0, i1, i2, i3, i4, i5, i6, i7, i8, i9, i10, i11, i12, i13, i14, i15, i16, i17⟩ := hI
    have q9 := i9 p (by omega)
    have e18 : ∀ d, su (su σ 18 (8 * p + σ 17 p) jb) 17 p (σ 17 p + 1) 18 d = if d = 8 * p + σ 17 p then jb else σ 18 d := fun d => by
      rw [su_ne (by omega)]
      unfold su
      simp only [true_and]
    have e17 : ∀ d, su (su σ 18 (8 * p + σ 17 p) jb) 17 p (σ 17 p + 1) 17 d = if d = p then σ 17 p + 1 else σ 17 d := fun d => by
      unfold su
      simp only [true_and, Nat.reduceEqDiff, false_and, if_false]
    unfold MI
    simp only [e18, e17]
    simp (disch := omega) only [su_ne]
    refine ⟨i0, i1, i2, i3, i4, i5, i6, i7, i8, fun r hr => ?_, fun r hr => ?_, fun d hd => ?_, fun r i hr hi => ?_, i13, i14, i15, i16, i17⟩
    · have := i9 r hr
      split <;> omega
    · have := i10 r hr
      split <;> omega
    · have := i11 d hd
      split <;> omega
    · by_cases e : r = p
      · subst e
        rw [if_pos rfl] at hi
        by_cases e2 : i = σ 17 r
        · rw [if_pos (by omega)]
          exact hjb
        · rw [if_neg (by omega)]
          exact i12 r i hr (by omega)
      · rw [if_neg e] at hi
        have h9 := i9 r (by omega)
        rw [if_neg (by omega)]
        exact i12 r i hr hi
  · rw [xi_f h]; exact hI

