/-! patch and paint -/
noncomputable def pc1 (x : Int64) (P : Nat) (σ : xS) (j : Nat) : xS := xi (bt x j) (su (su (su σ 22 j (P + 1)) 23 j 0) 24 j 0) σ
theorem pc1_o {x : Int64} {P j c i : Nat} {σ : xS} (hc : c ≠ 22 ∧ c ≠ 23 ∧ c ≠ 24) : pc1 x P σ j c i = σ c i := by
  unfold pc1
  by_cases h : bt x j
  · rw [xi_t h]
    simp (disch := omega) only [su_ne]
  · rw [xi_f h]
theorem fo_pc1_o {x : Int64} {P c i : Nat} (hc : c ≠ 22 ∧ c ≠ 23 ∧ c ≠ 24) : ∀ (n s : Nat) (σ : xS), fo (pc1 x P) n s σ c i = σ c i := by
  intro n
  induction n with
  | zero => intro s σ; rfl
  | succ n ih => intro s σ; show fo (pc1 x P) n (s + 1) (pc1 x P σ s) c i = σ c i; rw [ih, pc1_o hc]
noncomputable def t_patch (σ : xS) (x : Int64) : Nat := xi (x &&& 281474976710655 = 0) 1 (xi (σ 20 0 = 30) 2 0)
noncomputable def s_patch (σ : xS) (x : Int64) : xS := xi (t_patch σ x = 0) (su (su (fo (pc1 x (σ 20 0)) 48 0 σ) 21 (σ 20 0) (σ 0 0)) 20 0 (σ 20 0 + 1)) σ
noncomputable def v_patch (σ : xS) (x : Int64) : Int32 := xi (t_patch σ x = 0) (nI (σ 20 0)) 0
theorem cv22 {n : Nat} : cv 22 (n + 1) = nI n := by
  unfold cv
  rw [if_pos (Or.inl rfl), if_neg (Nat.succ_ne_zero n)]
  rfl
theorem cv23 {n : Nat} : cv 23 (n + 1) = nI n := by
  unfold cv
  rw [if_pos (Or.inr rfl), if_neg (Nat.succ_ne_zero n)]
  rfl
theorem cv230 : cv 23 0 = -1 := rfl
theorem cv220 : cv 22 0 = -1 := rfl
section
variable {κ : Nat → Nat} {R : xR → xH → Prop} {ad : Nat → Nat} {m : Nat} {ah0 ah : xH} {σ : xS} {th : Nat}
end

