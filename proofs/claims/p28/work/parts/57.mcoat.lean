/-! the uppermost coat, and what is laid on it -/
def up (σ : xS) (a : Nat) : Nat := 6 * a + σ 8 a - 1
def hb (σ : xS) (w a : Nat) : Nat := if σ 8 a = 0 then σ 5 w + 2 else σ 9 (up σ a) + 1
def refd (σ : xS) (w s p : Nat) : Prop := hb σ w (12 * w + s) < p + 1 ∨ (σ 8 (12 * w + s) ≠ 0 ∧ σ 13 (up σ (12 * w + s)) = 0) ∨ σ 8 (12 * w + s) = 6
def kb (σ : xS) (w a : Nat) : Nat := if σ 8 a = 0 then keyG (σ 5 w) else if σ 15 (up σ a) = 0 then 10 else 25
def crk (σ : xS) (w a p k : Nat) : Nat := if kb σ w a < shr p * k then 1 else 0
def lay (w p k : Nat) (σ : xS) (s : Nat) : xS :=
  su (su (su (su (su (su (su (su σ 8 (12 * w + s) (σ 8 (12 * w + s) + 1)) 9 (6 * (12 * w + s) + σ 8 (12 * w + s)) p) 10 (6 * (12 * w + s) + σ 8 (12 * w + s)) k) 11 (6 * (12 * w + s) + σ 8 (12 * w + s)) (σ 0 0)) 12 (6 * (12 * w + s) + σ 8 (12 * w + s)) 0) 13 (6 * (12 * w + s) + σ 8 (12 * w + s)) 0) 15 (6 * (12 * w + s) + σ 8 (12 * w + s)) 0) 14 (6 * (12 * w + s) + σ 8 (12 * w + s)) (crk σ w (12 * w + s) p k)
def edg (σ : xS) (w s o q : Nat) : Prop := σ 7 (12 * w + q) = 0 ∧ σ 8 (12 * w + o) = σ 8 (12 * w + s) ∧ σ 11 (up σ (12 * w + o)) < σ 0 0 ∧ σ 9 (up σ (12 * w + o)) = σ 9 (up σ (12 * w + s))
section
variable {κ : Nat → Nat} {R : xR → xH → Prop} {ad : Nat → Nat} {m : Nat} {ah0 ah : xH} {σ : xS} {th : Nat}
theorem up_lt {a : Nat} (h8 : ¬ σ 8 a = 0) (h6 : σ 8 a ≤ 6) (ha : a < 120) : up σ a < 720 := by unfold up; omega
theorem keyG_le (g : Nat) : keyG g ≤ 30 := by
  unfold keyG
  repeat' split
  all_goals decide
theorem shr_le (p : Nat) : shr p ≤ 5 := by
  unfold shr
  repeat' split
  all_goals decide
theorem kb_le (σ : xS) (w a : Nat) : kb σ w a ≤ 30 := by
  have := keyG_le (σ 5 w)
  unfold kb
  split
  · exact this
  · split <;> omega
theorem nIneg {a : Nat} (h : a < 2 ^ 31) : (nI a = -1) = False := by
  apply eq_false
  intro e
  have := congrArg Int32.toInt e
  rw [nI_toInt h, show (-1 : Int32).toInt = -1 from rfl] at this
  omega
theorem im1 : ((-1 : Int32) = -1) = True := eq_true rfl
end

