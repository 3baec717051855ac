/-! what the short calls keep -/
theorem MI_weather {σ : xS} (hI : MI σ) {a b : Int32} : MI (s_weather σ a b) := by
  unfold s_weather
  by_cases h : t_weather a b = 0
  · rw [xi_t h]
    have hab : xin a 51 ∧ xin b 21 := Classical.byContradiction (fun q => by
      unfold t_weather at h
      rw [xi_f q] at h
      exact absurd h (by decide))
    obtain ⟨ja, hja, rfl⟩ := xin_of (by decide) hab.1
    obtain ⟨jb, hjb, rfl⟩ := xin_of (by decide) hab.2
    simp (disch := omega) only [nI_cl]
    obtain ⟨i0, i1, i2, i3⟩ := hI
    unfold MI
    simp (disch := omega) only [su_ne, su_eq]
    exact ⟨i0, by omega, by omega, i3⟩
  · rw [xi_f h]; exact hI
theorem MI_damp {σ : xS} (hI : MI σ) {a b : Int32} : MI (s_damp σ a b) := by
  unfold s_damp
  by_cases h : t_damp σ a b = 0
  · rw [xi_t h]
    have hab : xin b 31 := Classical.byContradiction (fun q => by
      unfold t_damp at h
      by_cases q1 : xin a (σ 3 0)
      · rw [xi_t q1, xi_f q] at h
        exact absurd h (by decide)
      · rw [xi_f q1] at h
        exact absurd h (by decide))
    obtain ⟨jb, hjb, rfl⟩ := xin_of (by decide) hab
    simp (disch := omega) only [nI_cl]
    obtain ⟨i0, i1, i2, i3, i4, i5⟩ := hI
    unfold MI
    simp (disch := omega) only [su_ne]
    refine ⟨i0, i1, i2, i3, fun w hw => ⟨(i4 w hw).1, (i4 w hw).2.1, ?_⟩, i5⟩
    have := (i4 w hw).2.2
    unfold su
    split <;> omega
  · rw [xi_f h]; exact hI
theorem MI_joint {σ : xS} (hI : MI σ) {a b : Int32} : MI (s_joint σ a b) := by
  unfold s_joint
  by_cases h : t_joint σ a b = 0
  · rw [xi_t h]
    obtain ⟨i0, i1, i2, i3, i4, i5, i6, i7⟩ := hI
    unfold MI
    simp (disch := omega) only [su_ne]
    refine ⟨i0, i1, i2, i3, i4, i5, fun c hc => ⟨?_, (i6 c hc).2⟩, i7⟩
    have := (i6 c hc).1
    unfold su
    split <;> omega
  · rw [xi_f h]; exact hI
theorem MI_strike {σ : xS} (hI : MI σ) {a b : Int32} : MI (s_strike σ a b) := by
  unfold s_strike
  by_cases h : t_strike σ a b = 0
  · rw [xi_t h]
    obtain ⟨i0, i1, i2, i3, i4, i5, i6, i7, i8, i9, i10, i11, i12, i13, i14, i15, i16, i17⟩ := hI
    unfold MI
    simp (disch := omega) only [su_ne]
    refine ⟨i0, i1, i2, i3, i4, i5, fun c hc => ⟨(i6 c hc).1, ?_⟩, i7, i8, i9, i10, i11, i12, i13, i14, i15, i16, fun w s hw hs ho => ?_⟩
    · have := (i6 c hc).2
      unfold su
      split
      · rename_i q
        rw [← q.2]
        omega
      · exact this
    · have := i17 w s hw hs ho
      unfold su
      split
      · rename_i q
        rw [← q.2]
        omega
      · exact this
  · rw [xi_f h]; exact hI
theorem MI_window {σ : xS} (hI : MI σ) {a b : Int32} : MI (s_window σ a b) := by
  unfold s_window
  by_cases h : t_window a b = 0
  · rw [xi_t h]
    have hab : xin b 4 := Classical.byContradiction (fun q => by
      unfold t_window at h
      by_cases q1 : xin a 10
      · rw [xi_t q1, xi_f q] at h
        exact absurd h (by decide)
      · rw [xi_f q1] at h
        exact absurd h (by decide))
    obtain ⟨jb, hjb, rfl⟩ := xin_of (by decide) hab
    simp (disch := omega) only [nI_cl]
    obtain ⟨i0, i1, i2, i3, i4, i5, i6, i7, i8, i9, i10, i11, i12, i13, i14⟩ := hI
    unfold MI
    simp (disch := omega) only [su_ne]
    refine ⟨i0, i1, i2, i3, i4, i5, i6, i7, i8, i9, i10, i11, i12, fun g hg => ?_, i14⟩
    have := i13 g hg
    unfold su
    split <;> omega
  · rw [xi_f h]; exact hI
theorem MI_fo_scr {w : Nat} : ∀ (n s : Nat) (σ : xS), MI σ → MI (fo (scr w) n s σ) := by
  intro n
  induction n with
  | zero => intro s σ h; exact h
  | succ n ih => intro s σ h; exact ih (s + 1) _ (MI_15 h (Nat.le_refl 1))
theorem MI_scratch {σ : xS} (hI : MI σ) {a b c : Int32} : MI (s_scratch σ a b c) := by
  unfold s_scratch
  by_cases h : t_scratch σ a b c = 0
  · rw [xi_t h]; exact MI_fo_scr _ _ _ hI
  · rw [xi_f h]; exact hI
theorem MI_fo_mrk {w : Nat} : ∀ (n s : Nat) (σ : xS), MI σ → MI (fo (mrk w) n s σ) := by
  intro n
  induction n with
  | zero => intro s σ h; exact h
  | succ n ih => intro s σ h; exact ih (s + 1) _ (MI_14 h mkv_le)
theorem MI_fo_lay {w p k t : Nat} (hp : p < 4) (hk : k ≤ 20) : ∀ (n s : Nat) (σ : xS), MI σ → w < σ 3 0 → t < σ 4 w → (∀ i, s ≤ i → i ≤ t → ¬ σ 8 (12 * w + i) = 6) → s + n = t + 1 → MI (fo (lay w p k) n s σ) := by
  intro n
  induction n with
  | zero => intro s σ h _ _ _ _; exact h
  | succ n ih =>
    intro s σ h hw ht h6 hs
    refine ih (s + 1) _ (MI_lay h hw (by omega) hp hk (h6 s (Nat.le_refl _) (by omega))) (by rw [lay_o (by decide)]; exact hw) (by rw [lay_o (by decide)]; exact ht) (fun i hi hi2 => ?_) (by omega)
    rw [lay_8 (by omega)]
    exact h6 i (by omega) hi2
theorem MI_coat {σ : xS} (hI : MI σ) {w f t p k : Int32} : MI (s_coat σ w f t p k) := by
  unfold s_coat
  by_cases h : t_coat σ w f t p k = 0
  · rw [xi_t h]
    have hW := hI.W
    refine MI_fo_mrk _ _ _ ?_
    unfold t_coat at h
    have ha : areF σ w f t := Classical.byContradiction (fun q => by
      rw [xi_f q] at h
      exact absurd h (by decide))
    rw [xi_t ha] at h
    have hi : isF f t p k := Classical.byContradiction (fun q => by
      rw [xi_f q] at h
      exact absurd h (by decide))
    rw [xi_t hi] at h
    have ho : ¬ offF σ w.toNatClampNeg f.toNatClampNeg t.toNatClampNeg p.toNatClampNeg := fun q => by
      rw [xi_t q] at h
      exact absurd h (by decide)
    obtain ⟨⟨ha1, ha2⟩, ha3⟩ := ha
    obtain ⟨hi1, hi2, hi3⟩ := hi
    obtain ⟨jw, hjw, rfl⟩ := xin_of (by omega) ha1
    have h4 := hI.w4 (w := jw) (by omega)
    rw [nI_cl (by omega)] at ha2 ha3 ho ⊢
    obtain ⟨jf, hjf, rfl⟩ := xin_of (by omega) ha2
    obtain ⟨jt, hjt, rfl⟩ := xin_of (by omega) ha3
    obtain ⟨jp, hjp, rfl⟩ := xin_of (by decide) hi2
    obtain ⟨jk, hjk, hjk2, rfl⟩ := xrg_of (by decide) hi3
    rw [xlt (by omega) (by omega)] at hi1
    rw [nI_cl (by omega), nI_cl (by omega), nI_cl (by omega)] at ho ⊢
    rw [nI_cl (by omega)]
    exact MI_fo_lay hjp hjk2 _ _ _ hI hjw hjt (fun i h1 h2 e => ho ⟨i, h1, h2, Or.inr (Or.inr e)⟩) (by omega)
  · rw [xi_f h]; exact hI

