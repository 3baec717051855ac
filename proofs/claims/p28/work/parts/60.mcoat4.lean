/-! coat: the whole call -/
def areF (σ : xS) (w f t : Int32) : Prop := (xin w (σ 3 0) ∧ xin f (σ 4 w.toNatClampNeg)) ∧ xin t (σ 4 w.toNatClampNeg)
def isF (f t p k : Int32) : Prop := ¬ t < f ∧ xin p 4 ∧ xrg k 1 20
def offF (σ : xS) (w f t p : Nat) : Prop := ∃ i, f ≤ i ∧ i ≤ t ∧ refd σ w i p
noncomputable def t_coat (σ : xS) (w f t p k : Int32) : Nat := xi (areF σ w f t) (xi (isF f t p k) (xi (offF σ w.toNatClampNeg f.toNatClampNeg t.toNatClampNeg p.toNatClampNeg) 3 0) 2) 1
noncomputable def s_coat1 (σ : xS) (w f t p k : Nat) : xS := fo (lay w p k) (t + 1 - f) f σ
noncomputable def s_coat (σ : xS) (w f t p k : Int32) : xS := xi (t_coat σ w f t p k = 0) (fo (mrk w.toNatClampNeg) (t.toNatClampNeg + 1 - f.toNatClampNeg) f.toNatClampNeg (s_coat1 σ w.toNatClampNeg f.toNatClampNeg t.toNatClampNeg p.toNatClampNeg k.toNatClampNeg)) σ
noncomputable def v_coat (σ : xS) (w f t p k : Int32) : Int32 := xi (t_coat σ w f t p k = 0) (nI (mcn w.toNatClampNeg (t.toNatClampNeg + 1 - f.toNatClampNeg) f.toNatClampNeg (s_coat1 σ w.toNatClampNeg f.toNatClampNeg t.toNatClampNeg p.toNatClampNeg k.toNatClampNeg))) 0
theorem fo_lay_o {w p k c i : Nat} (hc : c < 8 ∨ 15 < c) : ∀ (n s : Nat) (σ : xS), fo (lay w p k) n s σ c i = σ c i := by
  intro n
  induction n with
  | zero => intro s σ; rfl
  | succ n ih => intro s σ; show fo (lay w p k) n (s + 1) (lay w p k σ s) c i = σ c i; rw [ih, lay_o hc]
theorem fo_lay_8 {w p k i : Nat} : ∀ (n s : Nat) (σ : xS), fo (lay w p k) n s σ 8 (12 * w + i) = if s ≤ i ∧ i < s + n then σ 8 (12 * w + i) + 1 else σ 8 (12 * w + i) := by
  intro n
  induction n with
  | zero => intro s σ; rw [if_neg (by omega)]; rfl
  | succ n ih =>
    intro s σ
    show fo (lay w p k) n (s + 1) (lay w p k σ s) 8 (12 * w + i) = _
    rw [ih]
    by_cases e : i = s
    · subst e
      rw [if_neg (by omega), if_pos (by omega), lay_8s]
    · rw [lay_8 e]
      by_cases e2 : s + 1 ≤ i ∧ i < s + 1 + n
      · rw [if_pos e2, if_pos (by omega)]
      · rw [if_neg e2, if_neg (by omega)]
section
variable {κ : Nat → Nat} {R : xR → xH → Prop} {ad : Nat → Nat} {m : Nat} {ah0 ah : xH} {σ : xS} {th : Nat}
end

