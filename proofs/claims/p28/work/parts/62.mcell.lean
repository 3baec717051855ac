/-! cells told by the bits of a long -/
def bt (x : Int64) (j : Nat) : Prop := x.toBitVec.getLsbD j = true
theorem xshr {x : Int64} {j : Nat} (hj : j < 48) : (x >>> ((nI j).toInt64 &&& 63)).toBitVec = x.toBitVec.sshiftRight j := by
  have e : (((nI j).toInt64 &&& 63).toBitVec.smod 64) = BitVec.ofNat 64 j := by
    have : ∀ j : Fin 48, (((nI j.1).toInt64 &&& 63).toBitVec.smod 64) = BitVec.ofNat 64 j.1 := by decide +kernel
    exact this ⟨j, hj⟩
  show BitVec.sshiftRight' x.toBitVec (((nI j).toInt64 &&& 63).toBitVec.smod 64) = _
  rw [e]
  unfold BitVec.sshiftRight'
  rw [BitVec.toNat_ofNat, Nat.mod_eq_of_lt (by omega)]
theorem bit1 (y : Int64) : (y &&& 1 = 1) ↔ y.toBitVec.getLsbD 0 = true := by
  rw [← Int64.toBitVec_inj, Int64.toBitVec_and]
  show y.toBitVec &&& 1#64 = 1#64 ↔ _
  rw [BitVec.and_one_eq_setWidth_ofBool_getLsbD]
  cases y.toBitVec.getLsbD 0 <;> decide
theorem bt_shr {x : Int64} {j : Nat} (hj : j < 48) : ((x >>> ((nI j).toInt64 &&& 63)) &&& 1 = 1) ↔ bt x j := by
  rw [bit1, xshr hj, BitVec.getLsbD_sshiftRight]
  have : j + 0 < 64 := by omega
  simp [this, bt]
  intro h
  omega
section
variable {κ : Nat → Nat} {R : xR → xH → Prop} {ad : Nat → Nat} {m : Nat} {ah0 ah : xH} {σ : xS} {th : Nat}
end

