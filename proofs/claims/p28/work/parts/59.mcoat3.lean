/-! the edges, and the whole call -/
def hasE (σ : xS) (w s : Nat) : Prop := (1 ≤ s ∧ edg σ w s (s - 1) (s - 1)) ∨ (s + 1 < σ 4 w ∧ edg σ w s (s + 1) s)
noncomputable def mkv (σ : xS) (w s : Nat) : Nat := xi (¬ σ 14 (up σ (12 * w + s)) = 0 ∨ hasE σ w s) 1 0
noncomputable def mrk (w : Nat) (σ : xS) (s : Nat) : xS := su σ 14 (up σ (12 * w + s)) (mkv σ w s)
noncomputable def mcn (w : Nat) : Nat → Nat → xS → Nat
  | 0, _, _ => 0
  | n + 1, s, σ => mkv σ w s + mcn w n (s + 1) (mrk w σ s)
theorem mkv_le {σ : xS} {w s : Nat} : mkv σ w s ≤ 1 := by
  unfold mkv
  by_cases h : ¬ σ 14 (up σ (12 * w + s)) = 0 ∨ hasE σ w s
  · rw [xi_t h]; exact Nat.le_refl 1
  · rw [xi_f h]; exact Nat.zero_le 1
theorem mcn_le (w : Nat) : ∀ (n s : Nat) (σ : xS), mcn w n s σ ≤ n := by
  intro n
  induction n with
  | zero => intro s σ; exact Nat.le_refl 0
  | succ n ih =>
    intro s σ
    have h1 := ih (s + 1) (mrk w σ s)
    have h2 := mkv_le (σ := σ) (w := w) (s := s)
    show mkv σ w s + mcn w n (s + 1) (mrk w σ s) ≤ n + 1
    omega
theorem mrk_o {σ : xS} {w s c i : Nat} (hc : c ≠ 14) : mrk w σ s c i = σ c i := by
  unfold mrk
  exact su_ne (fun q => hc q.1)
theorem MI_14 {σ : xS} (hI : MI σ) {u v : Nat} (hv : v ≤ 1) : MI (su σ 14 u v) := by
  have ho : ∀ c i, c ≠ 14 → su σ 14 u v c i = σ c i := fun c i hc => su_ne (fun q => hc q.1)
  obtain ⟨i0, i1, i2, i3, i4, i5, i6, i7, i8, i9, i10, i11, i12, i13, i14, i15, i16, i17⟩ := hI
  unfold MI
  simp (disch := decide) only [ho]
  refine ⟨i0, i1, i2, i3, i4, i5, i6, fun c hc => ?_, i8, i9, i10, i11, i12, i13, i14, i15, i16, i17⟩
  have := i7 c hc
  unfold su
  simp only [true_and]
  split <;> omega
section
variable {κ : Nat → Nat} {R : xR → xH → Prop} {ad : Nat → Nat} {m : Nat} {ah0 ah : xH} {σ : xS} {th : Nat}
theorem xin_m1 {n : Nat} : ¬ xin (nI 0 - 1) n := fun q => absurd q.1 (by decide)
end

