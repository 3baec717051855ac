/-! what patch and paint keep -/
def QI (P : Nat) (σ : xS) : Prop := ∀ i, i < 48 → σ 22 i ≤ P ∧ σ 23 i ≤ 10 ∧ σ 24 i ≤ 1
theorem QI_fo {P : Nat} {F : xS → Nat → xS} (hF : ∀ σ s, QI P σ → QI P (F σ s)) : ∀ (n s : Nat) (σ : xS), QI P σ → QI P (fo F n s σ) := by
  intro n
  induction n with
  | zero => intro s σ h; exact h
  | succ n ih => intro s σ h; exact ih (s + 1) _ (hF σ s h)
theorem QI_pc1 {x : Int64} {P : Nat} (σ : xS) (s : Nat) (h : QI (P + 1) σ) : QI (P + 1) (pc1 x P σ s) := by
  unfold pc1
  by_cases hb : bt x s
  · rw [xi_t hb]
    intro i hi
    have := h i hi
    unfold su
    simp only [true_and, Nat.reduceEqDiff, false_and, if_false]
    refine ⟨?_, ?_, ?_⟩ <;> split <;> omega
  · rw [xi_f hb]; exact h
theorem MI_patch {σ : xS} (hI : MI σ) {x : Int64} : MI (s_patch σ x) := by
  unfold s_patch
  by_cases h : t_patch σ x = 0
  · rw [xi_t h]
    unfold t_patch at h
    have hx : ¬ x &&& 281474976710655 = 0 := fun q => by
      rw [xi_t q] at h
      exact absurd h (by decide)
    rw [xi_f hx] at h
    have hp : ¬ σ 20 0 = 30 := fun q => by
      rw [xi_t q] at h
      exact absurd h (by decide)
    have hQ : QI (σ 20 0 + 1) (fo (pc1 x (σ 20 0)) 48 0 σ) := QI_fo (fun τ s => QI_pc1 τ s) 48 0 σ (fun i hi => by have := hI.cell hi; omega)
    have ho : ∀ c i, c ≠ 22 ∧ c ≠ 23 ∧ c ≠ 24 → fo (pc1 x (σ 20 0)) 48 0 σ c i = σ c i := fun c i hc => fo_pc1_o hc 48 0 σ
    have hd := hI.wt2
    obtain ⟨i0, i1, i2, i3, i4, i5, i6, i7, i8, i9, i10, i11, i12, i13, i14, i15, i16, i17⟩ := hI
    generalize hτ : fo (pc1 x (σ 20 0)) 48 0 σ = τ at hQ ho ⊢
    have e21 : ∀ q, su (su τ 21 (σ 20 0) (σ 0 0)) 20 0 (σ 20 0 + 1) 21 q = if q = σ 20 0 then σ 0 0 else σ 21 q := fun q => by
      rw [su_ne (by omega)]
      unfold su
      simp only [true_and]
      rw [ho 21 q (by decide)]
    have e20 : su (su τ 21 (σ 20 0) (σ 0 0)) 20 0 (σ 20 0 + 1) 20 0 = σ 20 0 + 1 := su_eq
    unfold MI
    simp only [e21, e20]
    simp (disch := omega) only [su_ne]
    simp (disch := decide) only [ho]
    refine ⟨i0, i1, i2, i3, i4, i5, i6, i7, i8, i9, i10, i11, i12, i13, by omega, fun q hq => ?_, fun c hc => hQ c hc, i17⟩
    have := i15 q hq
    split <;> omega
  · rw [xi_f h]; exact hI
theorem QI_pt1 {x : Int64} {P p g c : Nat} (hg : g < 10) (hc : c ≤ 1) (σ : xS) (s : Nat) (h : QI P σ) : QI P (pt1 x p g c σ s) := by
  unfold pt1
  by_cases hb : bt x s ∧ σ 22 s = p + 1
  · rw [xi_t hb]
    intro i hi
    have := h i hi
    unfold su
    simp only [true_and, Nat.reduceEqDiff, false_and, if_false]
    refine ⟨?_, ?_, ?_⟩
    · omega
    · split <;> omega
    · split <;> omega
  · rw [xi_f hb]; exact h
theorem fo_pt1_o {x : Int64} {p g c k i : Nat} (hc : k ≠ 23 ∧ k ≠ 24) : ∀ (n s : Nat) (σ : xS), fo (pt1 x p g c) n s σ k i = σ k i := by
  intro n
  induction n with
  | zero => intro s σ; rfl
  | succ n ih => intro s σ; show fo (pt1 x p g c) n (s + 1) (pt1 x p g c σ s) k i = σ k i; rw [ih, pt1_o hc]
theorem MI_paint {σ : xS} (hI : MI σ) {p g : Int32} {x : Int64} {sc : Prop} : MI (s_paint σ p g x sc) := by
  unfold s_paint
  by_cases h : t_paint σ p g sc = 0
  · rw [xi_t h]
    unfold t_paint at h
    have hab : xin p (σ 20 0) ∧ xin g 10 := Classical.byContradiction (fun q => by
      rw [xi_f q] at h
      exact absurd h (by decide))
    obtain ⟨jg, hjg, rfl⟩ := xin_of (by decide) hab.2
    rw [nI_cl (n := jg) (by omega)]
    have hc : (xi sc 1 0 : Nat) ≤ 1 := by
      by_cases q : sc
      · rw [xi_t q]; exact Nat.le_refl 1
      · rw [xi_f q]; exact Nat.zero_le 1
    have hQ : QI (σ 20 0) (fo (pt1 x p.toNatClampNeg jg (xi sc 1 0)) 48 0 σ) := QI_fo (fun τ s => QI_pt1 hjg hc τ s) 48 0 σ (fun i hi => hI.cell hi)
    have ho : ∀ c i, c ≠ 23 ∧ c ≠ 24 → fo (pt1 x p.toNatClampNeg jg (xi sc 1 0)) 48 0 σ c i = σ c i := fun c i hc => fo_pt1_o hc 48 0 σ
    obtain ⟨i0, i1, i2, i3, i4, i5, i6, i7, i8, i9, i10, i11, i12, i13, i14, i15, i16, i17⟩ := hI
    generalize fo (pt1 x p.toNatClampNeg jg (xi sc 1 0)) 48 0 σ = τ at hQ ho ⊢
    unfold MI
    simp (disch := decide) only [ho]
    refine ⟨i0, i1, i2, i3, i4, i5, i6, i7, i8, i9, i10, i11, i12, i13, i14, i15, fun c hc => ?_, i17⟩
    have := hQ c hc
    rw [ho 22 c (by decide)] at this
    exact this
  · rw [xi_f h]; exact hI

