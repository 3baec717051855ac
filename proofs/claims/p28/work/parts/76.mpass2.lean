/-! pass: the days -/
noncomputable def drn : Nat → Nat → xS → Nat
  | 0, _, _ => 0
  | n + 1, a, σ => dryv σ a + drn n (a + 1) (dry1 σ a)
noncomputable def pasd : Nat → xS → xS
  | 0, σ => σ
  | n + 1, σ => pasd n (fo dry1 (12 * σ 3 0) 0 (su σ 0 0 (σ 0 0 + 1)))
noncomputable def pasv : Nat → xS → Nat
  | 0, _ => 0
  | n + 1, σ => drn (12 * σ 3 0) 0 (su σ 0 0 (σ 0 0 + 1)) + pasv n (fo dry1 (12 * σ 3 0) 0 (su σ 0 0 (σ 0 0 + 1)))
noncomputable def t_pass (σ : xS) (d : Int32) : Nat := xi (xrg d 1 100) (xi (σ 0 0 + d.toNatClampNeg ≤ 2000) 0 2) 1
noncomputable def s_pass (σ : xS) (d : Int32) : xS := xi (t_pass σ d = 0) (pasd d.toNatClampNeg σ) σ
noncomputable def v_pass (σ : xS) (d : Int32) : Int32 := xi (t_pass σ d = 0) (nI (pasv d.toNatClampNeg σ)) 0
theorem dry1_o {σ : xS} {a c i : Nat} (hc : ¬ ((c = 12 ∨ c = 13 ∨ c = 14) ∧ i = up σ a)) : dry1 σ a c i = σ c i := by
  unfold dry1
  by_cases h : offD σ a
  · rw [xi_t h]
  · rw [xi_f h]
    by_cases h2 : ndu σ (up σ a) ≤ σ 12 (up σ a) + mor σ a
    · rw [xi_t h2]
      simp (disch := omega) only [su_ne]
    · rw [xi_f h2]
      simp (disch := omega) only [su_ne]
theorem dry1_r {σ : xS} {a c i : Nat} (hc : ¬ (c = 12 ∨ c = 13 ∨ c = 14)) : dry1 σ a c i = σ c i := dry1_o (fun q => hc q.1)
theorem ndu_dry1 {σ : xS} {a u : Nat} : ndu (dry1 σ a) u = ndu σ u := by
  unfold ndu
  rw [dry1_r (by decide), dry1_r (by decide)]
theorem dry1_12 {σ : xS} {a : Nat} (h : ¬ offD σ a) : dry1 σ a 12 (up σ a) = σ 12 (up σ a) + mor σ a := by
  unfold dry1
  rw [xi_f h]
  by_cases h2 : ndu σ (up σ a) ≤ σ 12 (up σ a) + mor σ a
  · rw [xi_t h2]; simp (disch := omega) only [su_ne, su_eq]
  · rw [xi_f h2]; simp (disch := omega) only [su_ne, su_eq]
theorem dry1_13 {σ : xS} {a : Nat} (h : ¬ offD σ a) : dry1 σ a 13 (up σ a) = xi (ndu σ (up σ a) ≤ σ 12 (up σ a) + mor σ a) 1 0 := by
  unfold dry1
  rw [xi_f h]
  by_cases h2 : ndu σ (up σ a) ≤ σ 12 (up σ a) + mor σ a
  · rw [xi_t h2, xi_t h2]; simp (disch := omega) only [su_ne, su_eq]
  · rw [xi_f h2, xi_f h2]; simp (disch := omega) only [su_ne, su_eq]
theorem dry1_14 {σ : xS} {a : Nat} (h : ¬ offD σ a) : dry1 σ a 14 (up σ a) = xi (¬ σ 14 (up σ a) = 0 ∨ (ndu σ (up σ a) ≤ σ 12 (up σ a) + mor σ a ∧ σ 9 (up σ a) = 3 ∧ 30 ≤ σ 1 0)) 1 0 := by
  unfold dry1
  rw [xi_f h]
  by_cases h2 : ndu σ (up σ a) ≤ σ 12 (up σ a) + mor σ a
  · rw [xi_t h2, su_eq]
    by_cases h3 : crD σ (up σ a)
    · rw [xi_t h3, xi_t (h3.elim Or.inl (fun q => Or.inr ⟨h2, q⟩))]
    · rw [xi_f h3, xi_f (fun q => h3 (q.elim Or.inl (fun q => Or.inr q.2)))]
  · rw [xi_f h2, su_eq]
    by_cases h3 : σ 14 (up σ a) = 0
    · rw [xi_f (fun q => q h3), xi_f (fun q => q.elim (fun q => q h3) (fun q => h2 q.1))]
    · rw [xi_t h3, xi_t (Or.inl h3)]
theorem xi01 (p : Prop) : xi p 1 0 ≤ 1 := by
  by_cases h : p
  · rw [xi_t h]; exact Nat.le_refl 1
  · rw [xi_f h]; exact Nat.zero_le 1
section
variable {κ : Nat → Nat} {R : xR → xH → Prop} {ad : Nat → Nat} {m : Nat} {ah0 ah : xH} {σ : xS} {th : Nat}
theorem MI_dry1 (hI : MI σ) (hN : NIc σ) {a : Nat} (ha : a < 120) : MI (dry1 σ a) := by
  have h6 := hI.w8 ha
  have hm := mor_le hI a
  have hI' := hI
  obtain ⟨i0, i1, i2, i3, i4, i5, i6, i7, i8, i9, i10, i11, i12, i13, i14, i15, i16, i17⟩ := hI
  unfold MI
  simp (disch := omega) only [dry1_r]
  refine ⟨i0, i1, i2, i3, i4, i5, i6, fun c hc => ?_, i8, i9, i10, i11, i12, i13, i14, i15, i16, i17⟩
  have := i7 c hc
  by_cases ho : offD σ a
  · have e : dry1 σ a = σ := xi_t ho
    rw [e]; exact this
  · have h8 : ¬ σ 8 a = 0 := fun q => ho (Or.inl q)
    have h13 : σ 13 (up σ a) = 0 := Classical.byContradiction (fun q => ho (Or.inr q))
    have hp := hN.p hI' ha h8 h13
    by_cases e : c = up σ a
    · subst e
      rw [dry1_12 ho, dry1_13 ho, dry1_14 ho]
      exact ⟨this.1, this.2.1, this.2.2.1, by omega, xi01 _, xi01 _, this.2.2.2.2.2.2⟩
    · rw [dry1_o (fun q => e q.2), dry1_o (fun q => e q.2), dry1_o (fun q => e q.2)]
      exact this
theorem NIc_dry1 (hN : NIc σ) {a : Nat} : NIc (dry1 σ a) := by
  intro b k hb hk
  rw [dry1_r (by decide)] at hk
  rw [dry1_r (by decide), ndu_dry1]
  have := hN b k hb hk
  refine ⟨this.1, ?_⟩
  by_cases ho : offD σ a
  · have e : dry1 σ a = σ := xi_t ho
    rw [e]; exact this.2
  · by_cases e : 6 * b + k = up σ a
    · rw [e, dry1_12 ho, dry1_13 ho]
      by_cases h2 : ndu σ (up σ a) ≤ σ 12 (up σ a) + mor σ a
      · rw [xi_t h2]; exact ⟨fun _ => h2, fun _ => rfl⟩
      · rw [xi_f h2]; exact ⟨fun q => absurd q (by decide), fun q => absurd q h2⟩
    · rw [dry1_o (fun q => e q.2), dry1_o (fun q => e q.2)]
      exact this.2
theorem dryv_le (a : Nat) : dryv σ a ≤ 1 := by
  unfold dryv
  by_cases h : offD σ a
  · rw [xi_t h]; exact Nat.zero_le 1
  · rw [xi_f h]; exact xi01 _
theorem MI_day (hI : MI σ) (h : σ 0 0 + 1 ≤ 2000) : MI (su σ 0 0 (σ 0 0 + 1)) := by
  obtain ⟨i0, i⟩ := hI
  unfold MI
  simp (disch := omega) only [su_ne, su_eq]
  exact ⟨h, i⟩
theorem NIc_day (hN : NIc σ) {v : Nat} : NIc (su σ 0 0 v) := by
  intro b k hb hk
  unfold ndu
  simp (disch := omega) only [su_ne] at hk ⊢
  exact hN b k hb hk
end

