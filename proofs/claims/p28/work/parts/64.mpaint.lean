/-! paint -/
noncomputable def pt1 (x : Int64) (p g c : Nat) (σ : xS) (j : Nat) : xS := xi (bt x j ∧ σ 22 j = p + 1) (su (su σ 23 j (g + 1)) 24 j c) σ
noncomputable def ptv (x : Int64) (p : Nat) (σ : xS) (j : Nat) : Nat := xi (bt x j ∧ σ 22 j = p + 1) 1 0
noncomputable def ptn (x : Int64) (p : Nat) (σ : xS) : Nat → Nat → Nat
  | 0, _ => 0
  | n + 1, j => ptv x p σ j + ptn x p σ n (j + 1)
theorem pt1_o {x : Int64} {p g c k i j : Nat} {σ : xS} (hc : k ≠ 23 ∧ k ≠ 24) : pt1 x p g c σ j k i = σ k i := by
  unfold pt1
  by_cases h : bt x j ∧ σ 22 j = p + 1
  · rw [xi_t h]
    simp (disch := omega) only [su_ne]
  · rw [xi_f h]
theorem ptn_22 {x : Int64} {p : Nat} {σ τ : xS} (h : ∀ i, τ 22 i = σ 22 i) : ∀ (n j : Nat), ptn x p τ n j = ptn x p σ n j := by
  intro n
  induction n with
  | zero => intro j; rfl
  | succ n ih =>
    intro j
    show ptv x p τ j + ptn x p τ n (j + 1) = ptv x p σ j + ptn x p σ n (j + 1)
    rw [ih, ptv, ptv, h]
noncomputable def oldP (σ : xS) (p g : Nat) : Prop := σ 19 g < σ 0 0 - σ 21 p
noncomputable def t_paint (σ : xS) (p g : Int32) (sc : Prop) : Nat := xi (xin p (σ 20 0) ∧ xin g 10) (xi (oldP σ p.toNatClampNeg g.toNatClampNeg ↔ sc) 0 2) 1
noncomputable def s_paint (σ : xS) (p g : Int32) (x : Int64) (sc : Prop) : xS := xi (t_paint σ p g sc = 0) (fo (pt1 x p.toNatClampNeg g.toNatClampNeg (xi sc 1 0)) 48 0 σ) σ
noncomputable def v_paint (σ : xS) (p g : Int32) (x : Int64) (sc : Prop) : Int32 := xi (t_paint σ p g sc = 0) (nI (ptn x p.toNatClampNeg σ 48 0)) 0
theorem xbn {sc : Prop} : xb sc = nI (xi sc 1 0) := by
  by_cases h : sc
  · rw [xb_t h, xi_t h]; rfl
  · rw [xb_f h, xi_f h]; rfl
theorem cv22e {n p : Nat} (hn : n < 2 ^ 30) (hp : p < 2 ^ 30) : (cv 22 n = nI p) = (n = p + 1) := by
  cases n with
  | zero =>
    have : ¬ (0 : Nat) = p + 1 := by omega
    rw [cv220, eq_false this]
    apply eq_false
    intro e
    exact absurd e.symm (by rw [nIneg (by omega)]; exact id)
  | succ n => rw [cv22, xeq (by omega) (by omega)]; exact propext ⟨fun e => by omega, fun e => by omega⟩
section
variable {κ : Nat → Nat} {R : xR → xH → Prop} {ad : Nat → Nat} {m : Nat} {ah0 ah : xH} {σ : xS} {th : Nat}
theorem i11 : ((1 : Int32) = 1) = True := eq_true rfl
theorem i01 : ((0 : Int32) = 1) = False := by decide
end

