/-! over -/
def mk1 (σ : xS) (p o i : Nat) : Prop := σ 22 (i / 48) = p + 1 ∧ σ 22 (i % 48) = o + 1 ∧ besd (i / 48) (i % 48)
def metP (σ : xS) (p o : Nat) : Prop := ∃ i, 0 ≤ i ∧ i < 2304 ∧ mk1 σ p o i
noncomputable def ovn (σ : xS) (p : Nat) : Nat → Nat → Nat
  | 0, _ => 0
  | n + 1, o => xi (metP σ p o) 1 0 + ovn σ p n (o + 1)
theorem rem48 {k : Nat} (h : k < 2 ^ 31) : nI k - nI (k / 48 * 48) = nI (k % 48) := pk_rem' h (by decide) (by decide)
theorem i480 : ((48 : Int32) = 0) = False := by decide
theorem lge2304 {a : Nat} (h : a < 2 ^ 31) : (2304 ≤ nI a) = (2304 ≤ a) := xle (by decide) h
section
variable {κ : Nat → Nat} {R : xR → xH → Prop} {ad : Nat → Nat} {m : Nat} {ah0 ah : xH} {σ : xS} {th : Nat}
theorem ovn_le {p : Nat} : ∀ (n o : Nat), ovn σ p n o ≤ n := by
  intro n
  induction n with
  | zero => intro o; exact Nat.le_refl 0
  | succ n ih =>
    intro o
    have h1 := ih (o + 1)
    have h2 : xi (metP σ p o) 1 0 ≤ 1 := by
      by_cases q : metP σ p o
      · rw [xi_t q]; exact Nat.le_refl 1
      · rw [xi_f q]; exact Nat.zero_le 1
    show xi (metP σ p o) 1 0 + ovn σ p n (o + 1) ≤ n + 1
    omega
noncomputable def t_over (σ : xS) (p : Int32) : Nat := xi (xin p (σ 20 0)) 0 1
noncomputable def v_over (σ : xS) (p : Int32) : Int32 := xi (t_over σ p = 0) (nI (ovn σ p.toNatClampNeg p.toNatClampNeg 0)) 0
end

