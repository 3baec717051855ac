/-! tells -/
section
variable {κ : Nat → Nat} {R : xR → xH → Prop} {ad : Nat → Nat} {m : Nat} {ah0 ah : xH} {σ : xS} {th : Nat}
theorem lsb {a b : Nat} (ha : a < 2 ^ 30) (hb : b < 2 ^ 30) (c : Nat) (hc : c < 2 ^ 30) : (nI a - nI b < nI c) = (a < b + c) := by
  have h1 := pk_sub_toInt ha hb
  rw [Int32.lt_iff_toInt_lt, h1, nI_toInt (by omega)]
  exact propext ⟨fun _ => by omega, fun _ => by omega⟩
theorem lsb10 {a b : Nat} (ha : a < 2 ^ 30) (hb : b < 2 ^ 30) : (nI a - nI b < 10) = (a < b + 10) := lsb ha hb 10 (by decide)
theorem lsb20 {a b : Nat} (ha : a < 2 ^ 30) (hb : b < 2 ^ 30) : (nI a - nI b < 20) = (a < b + 20) := lsb ha hb 20 (by decide)
end

