/-! scratch -/
def offAt (σ : xS) (w i : Nat) : Prop := σ 8 (12 * w + i) = 0 ∨ ¬ σ 11 (up σ (12 * w + i)) = σ 0 0
def offS (σ : xS) (w f t : Nat) : Prop := ∃ i, f ≤ i ∧ i ≤ t ∧ offAt σ w i
def scr (w : Nat) (σ : xS) (s : Nat) : xS := su σ 15 (up σ (12 * w + s)) 1
def scv (σ : xS) (w s : Nat) : Nat := if σ 15 (up σ (12 * w + s)) = 0 then 1 else 0
def scn (w : Nat) : Nat → Nat → xS → Nat
  | 0, _, _ => 0
  | n + 1, s, σ => scv σ w s + scn w n (s + 1) (scr w σ s)
theorem scv_le {σ : xS} {w s : Nat} : scv σ w s ≤ 1 := by unfold scv; split <;> omega
theorem MI_15 {σ : xS} (hI : MI σ) {u v : Nat} (hv : v ≤ 1) : MI (su σ 15 u v) := by
  have ho : ∀ c i, c ≠ 15 → su σ 15 u v c i = σ c i := fun c i hc => su_ne (fun q => hc q.1)
  obtain ⟨i0, i1, i2, i3, i4, i5, i6, i7, i8, i9, i10, i11, i12, i13, i14, i15, i16, i17⟩ := hI
  unfold MI
  simp (disch := decide) only [ho]
  refine ⟨i0, i1, i2, i3, i4, i5, i6, fun c hc => ?_, i8, i9, i10, i11, i12, i13, i14, i15, i16, i17⟩
  have := i7 c hc
  unfold su
  simp only [true_and]
  split <;> omega
noncomputable def t_scratch (σ : xS) (w f t : Int32) : Nat := xi (areF σ w f t) (xi (t < f) 2 (xi (offS σ w.toNatClampNeg f.toNatClampNeg t.toNatClampNeg) 3 0)) 1
noncomputable def s_scratch (σ : xS) (w f t : Int32) : xS := xi (t_scratch σ w f t = 0) (fo (scr w.toNatClampNeg) (t.toNatClampNeg + 1 - f.toNatClampNeg) f.toNatClampNeg σ) σ
noncomputable def v_scratch (σ : xS) (w f t : Int32) : Int32 := xi (t_scratch σ w f t = 0) (nI (scn w.toNatClampNeg (t.toNatClampNeg + 1 - f.toNatClampNeg) f.toNatClampNeg σ)) 0
section
variable {κ : Nat → Nat} {R : xR → xH → Prop} {ad : Nat → Nat} {m : Nat} {ah0 ah : xH} {σ : xS} {th : Nat}
end

