/-! depths; cells that are beside one another -/
def dpa (σ : xS) (p i : Nat) : Nat := σ 18 (8 * p + (if i < σ 17 p then i else σ 17 p - 1))
def besd (a b : Nat) : Prop := (a / 8 = b / 8 ∧ (b = a + 1 ∨ a = b + 1)) ∨ b = a + 8 ∨ a = b + 8
section
variable {κ : Nat → Nat} {R : xR → xH → Prop} {ad : Nat → Nat} {m : Nat} {ah0 ah : xH} {σ : xS} {th : Nat}
theorem dif {a b : Nat} (ha : a < 2 ^ 30) (hb : b < 2 ^ 30) (x : Int32) : (nI b - nI a = x) = ((b : Int) - a = x.toInt) := by
  rw [← Int32.toInt_inj, pk_sub_toInt hb ha]
end

