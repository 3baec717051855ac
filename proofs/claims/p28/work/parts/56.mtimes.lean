/-! longs, and how many times a repeat goes -/
theorem xLmul (a b : Nat) : lN a * lN b = lN (a * b) := (Int64.ofNat_mul a b).symm
theorem xLadd (a b : Nat) : lN a + lN b = lN (a + b) := (Int64.ofNat_add a b).symm
theorem xL1 (a : Nat) : lN a + 1 = lN (a + 1) := xLadd a 1
theorem xLsub {a b : Nat} (h : b ≤ a) : lN a - lN b = lN (a - b) := by
  have e : lN a = lN (a - b) + lN b := by rw [xLadd, Nat.sub_add_cancel h]
  rw [e, Int64.add_sub_cancel]
theorem xLlt {a b : Nat} (ha : a < 2 ^ 63) (hb : b < 2 ^ 63) : (lN a < lN b) = (a < b) := propext (pk_lLT ha hb)
theorem pk_rem' {a d : Nat} (ha : a < 2 ^ 31) (h0 : 0 < d) (hd : d < 2 ^ 31) : nI a - nI (a / d * d) = nI (a % d) := by
  rw [← pk_rem ha h0 hd, pk_div ha h0 hd, pk_mul]
theorem xfn {a b : Int32} (hb : b ≠ 0) : vf_n32 (FP.fdiv (FP.i2f a) (FP.i2f b)) = True := eq_true (Jvm.Free.Fl.fdiv_out (Jvm.Free.Fl.i2f_fin a).noNaN (Jvm.Free.Fl.i2f_fin b) (Jvm.Free.Fl.i2f_nz hb))
theorem xLle {a b : Nat} (ha : a < 2 ^ 63) (hb : b < 2 ^ 63) : (lN a ≤ lN b) = (a ≤ b) := propext (pk_lLE ha hb)
theorem xLi (a : Nat) : (lN a).toInt32 = nI a := by rw [show lN a = Int64.ofNat a from rfl, Int64.toInt32_ofNat']; rfl
def nT (r p : Nat) : Nat := if r / p = 0 then 1 else if (r - p * (r / p)) * (r / p + 1) ≤ (p * (r / p + 1) - r) * (r / p) then r / p else r / p + 1
section
variable {κ : Nat → Nat} {R : xR → xH → Prop} {ad : Nat → Nat} {m : Nat} {ah0 ah : xH} {σ : xS} {th : Nat}
noncomputable def t_fits (a b : Int32) : Nat := xi (xrg a 1 100000 ∧ xrg b 1 100000) 0 1
noncomputable def v_fits (a b : Int32) : Int32 := xi (t_fits a b = 0) (nI (nT a.toNatClampNeg b.toNatClampNeg)) 0
noncomputable def v_step (a b : Int32) : UInt32 := xi (t_fits a b = 0) (FP.fdiv (FP.i2f a) (FP.i2f (nI (nT a.toNatClampNeg b.toNatClampNeg)))) 0
noncomputable def t_cut (a b c : Int32) : Nat := xi (xrg a 2000 100000 ∧ xrg b 1 1000 ∧ xin c 21) 0 1
def nC (r t j : Nat) : Nat :=
  let one := if j < (r - t) / 2 % (t + j) then (r - t) / 2 % (t + j) - j else 0
  let other := if (r - j) / 2 % (t + j) < t then (r - j) / 2 % (t + j) else 0
  if one = 0 ∨ other = 0 then 0 else if other < one then one else other
noncomputable def v_cut (a b c : Int32) : Int32 := xi (t_cut a b c = 0) (nI (nC a.toNatClampNeg b.toNatClampNeg c.toNatClampNeg)) 0
noncomputable def t_tells (a b c d e s : Int32) : Nat := xi (xin a 100 ∧ xin b 100 ∧ xin c 100 ∧ xin d 100 ∧ xin e 100 ∧ xin s 100) 0 1
def nTell (a b c d e s : Nat) : Nat :=
  if (b ≤ a ∧ c ≤ b ∧ d ≤ c ∧ e ≤ d) ∧ e + 20 ≤ a ∧ 10 ≤ s then 1 else if a + 10 ≤ max d (max b c) ∧ e + 10 ≤ max d (max b c) then 2 else if a < e ∧ max d (max b c) < e then 3 else 0
noncomputable def v_tells (a b c d e s : Int32) : Int32 := xi (t_tells a b c d e s = 0) (nI (nTell a.toNatClampNeg b.toNatClampNeg c.toNatClampNeg d.toNatClampNeg e.toNatClampNeg s.toNatClampNeg)) 0
end

