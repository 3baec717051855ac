/-! the model's small methods over its state -/
def xin (w : Int32) (n : Nat) : Prop := 0 ≤ w ∧ w < nI n
theorem xin_of {w : Int32} {n : Nat} (hn : n < 2 ^ 31) (h : xin w n) : ∃ j, j < n ∧ w = nI j := by
  rcases xint w n hn with h1 | h1
  · exact h1
  · exact absurd h h1
theorem xin_j {j n : Nat} (hj : j < 2 ^ 31) (hn : n < 2 ^ 31) : xin (nI j) n ↔ j < n := by
  unfold xin
  rw [xlt hj hn]
  exact ⟨fun h => h.2, fun h => ⟨nI_pos' hj, h⟩⟩
theorem xin_pred {w : Int32} {n : Nat} (hn : n < 2 ^ 31) : (0 ≤ w ∧ w ≤ nI n - 1) ↔ xin w n := by
  have e : (nI n - 1).toInt = (n : Int) - 1 := by
    have h1 : (nI n).toInt = (n : Int) := nI_toInt hn
    have h2 : (1 : Int32).toInt = 1 := rfl
    rw [Int32.toInt_sub, h1, h2]
    exact Int.bmod_eq_of_le (by omega) (by omega)
  have e0 : (nI n).toInt = (n : Int) := nI_toInt hn
  unfold xin
  rw [Int32.le_iff_toInt_le, Int32.le_iff_toInt_le, Int32.lt_iff_toInt_lt, e, e0]
  omega
theorem xin_not {w : Int32} {n : Nat} (h0 : ¬ w < 0) (h1 : ¬ nI n ≤ w) : xin w n := ⟨Int32.not_lt.mp h0, Int32.not_le.mp h1⟩
theorem xb_congr {p q : Prop} (h : p ↔ q) : xb p = xb q := by rw [propext h]
theorem nI_cl {n : Nat} (h : n < 2 ^ 31) : (nI n).toNatClampNeg = n := nI_clamp h
/-- within a and b -/
def xrg (x : Int32) (a b : Nat) : Prop := (a : Int) ≤ x.toInt ∧ x.toInt ≤ (b : Int)
theorem xrg_of {x : Int32} {a b : Nat} (hb : b < 2 ^ 31) (h : xrg x a b) : ∃ j, a ≤ j ∧ j ≤ b ∧ x = nI j := by
  obtain ⟨h1, h2⟩ := h
  have h0 : ¬ x < 0 := by
    rw [Int32.lt_iff_toInt_lt, show (0 : Int32).toInt = 0 from rfl]
    omega
  obtain ⟨j, hj, e⟩ := nI_of h0
  subst e
  rw [nI_toInt hj] at h1 h2
  exact ⟨j, by omega, by omega, rfl⟩
theorem xrg_j {j a b : Nat} (hj : j < 2 ^ 31) : xrg (nI j) a b ↔ a ≤ j ∧ j ≤ b := by
  unfold xrg
  rw [nI_toInt hj]
  omega
theorem xrg_L {x : Int32} {a b : Nat} (ha : a < 2 ^ 31) (hb : b < 2 ^ 31) : ((OfNat.ofNat a : Int32) ≤ x ∧ x ≤ (OfNat.ofNat b : Int32)) ↔ xrg x a b := by
  show (nI a ≤ x ∧ x ≤ nI b) ↔ _
  unfold xrg
  rw [Int32.le_iff_toInt_le, Int32.le_iff_toInt_le, nI_toInt ha, nI_toInt hb]
theorem xrg_0 {x : Int32} {b : Nat} (hb : b + 1 < 2 ^ 31) : xrg x 0 b ↔ xin x (b + 1) := by
  unfold xrg xin
  rw [Int32.le_iff_toInt_le, Int32.lt_iff_toInt_lt, nI_toInt hb, show (0 : Int32).toInt = 0 from rfl]
  omega
/-- a choice -/
noncomputable def xi {α : Type} (p : Prop) (a b : α) : α := @ite _ p (Classical.propDecidable p) a b
theorem xi_t {α : Type} {p : Prop} {a b : α} (h : p) : xi p a b = a := if_pos h
theorem xi_f {α : Type} {p : Prop} {a b : α} (h : ¬ p) : xi p a b = b := if_neg h
theorem xiT {α : Type} {a b : α} : xi True a b = a := if_pos trivial
theorem xiF {α : Type} {a b : α} : xi False a b = b := if_neg id
theorem leq0 {a : Nat} (h : a < 2 ^ 31) : (nI a = 0) = (a = 0) := xeq h (by decide)
theorem lle0 {a : Nat} (h : a < 2 ^ 31) : (nI a ≤ 0) = (a ≤ 0) := xle h (by decide)
theorem lge0 {a : Nat} (h : a < 2 ^ 31) : (0 ≤ nI a) = (0 ≤ a) := xle (by decide) h
theorem llt0 {a : Nat} (h : a < 2 ^ 31) : (nI a < 0) = (a < 0) := xlt h (by decide)
theorem lgt0 {a : Nat} (h : a < 2 ^ 31) : (0 < nI a) = (0 < a) := xlt (by decide) h
theorem leq1 {a : Nat} (h : a < 2 ^ 31) : (nI a = 1) = (a = 1) := xeq h (by decide)
theorem lle1 {a : Nat} (h : a < 2 ^ 31) : (nI a ≤ 1) = (a ≤ 1) := xle h (by decide)
theorem lge1 {a : Nat} (h : a < 2 ^ 31) : (1 ≤ nI a) = (1 ≤ a) := xle (by decide) h
theorem llt1 {a : Nat} (h : a < 2 ^ 31) : (nI a < 1) = (a < 1) := xlt h (by decide)
theorem lgt1 {a : Nat} (h : a < 2 ^ 31) : (1 < nI a) = (1 < a) := xlt (by decide) h
theorem lad1 {a : Nat} : nI a + (1 : Int32) = nI (a + 1) := nI_add a 1
theorem lsu1 {a : Nat} (h : 1 ≤ a) : nI a - (1 : Int32) = nI (a - 1) := pk_sub h
theorem leq2 {a : Nat} (h : a < 2 ^ 31) : (nI a = 2) = (a = 2) := xeq h (by decide)
theorem lle2 {a : Nat} (h : a < 2 ^ 31) : (nI a ≤ 2) = (a ≤ 2) := xle h (by decide)
theorem lge2 {a : Nat} (h : a < 2 ^ 31) : (2 ≤ nI a) = (2 ≤ a) := xle (by decide) h
theorem llt2 {a : Nat} (h : a < 2 ^ 31) : (nI a < 2) = (a < 2) := xlt h (by decide)
theorem lgt2 {a : Nat} (h : a < 2 ^ 31) : (2 < nI a) = (2 < a) := xlt (by decide) h
theorem lmu2 {a : Nat} : (2 : Int32) * nI a = nI (2 * a) := pk_mul 2 a
theorem lmv2 {a : Nat} : nI a * (2 : Int32) = nI (a * 2) := pk_mul a 2
theorem lad2 {a : Nat} : nI a + (2 : Int32) = nI (a + 2) := nI_add a 2
theorem lsu2 {a : Nat} (h : 2 ≤ a) : nI a - (2 : Int32) = nI (a - 2) := pk_sub h
theorem ldi2 {a : Nat} (h : a < 2 ^ 31) : nI a / (2 : Int32) = nI (a / 2) := pk_div h (by decide) (by decide)
theorem leq3 {a : Nat} (h : a < 2 ^ 31) : (nI a = 3) = (a = 3) := xeq h (by decide)
theorem lle3 {a : Nat} (h : a < 2 ^ 31) : (nI a ≤ 3) = (a ≤ 3) := xle h (by decide)
theorem lge3 {a : Nat} (h : a < 2 ^ 31) : (3 ≤ nI a) = (3 ≤ a) := xle (by decide) h
theorem llt3 {a : Nat} (h : a < 2 ^ 31) : (nI a < 3) = (a < 3) := xlt h (by decide)
theorem lgt3 {a : Nat} (h : a < 2 ^ 31) : (3 < nI a) = (3 < a) := xlt (by decide) h
theorem lmu3 {a : Nat} : (3 : Int32) * nI a = nI (3 * a) := pk_mul 3 a
theorem lmv3 {a : Nat} : nI a * (3 : Int32) = nI (a * 3) := pk_mul a 3
theorem lad3 {a : Nat} : nI a + (3 : Int32) = nI (a + 3) := nI_add a 3
theorem lsu3 {a : Nat} (h : 3 ≤ a) : nI a - (3 : Int32) = nI (a - 3) := pk_sub h
theorem ldi3 {a : Nat} (h : a < 2 ^ 31) : nI a / (3 : Int32) = nI (a / 3) := pk_div h (by decide) (by decide)
theorem leq4 {a : Nat} (h : a < 2 ^ 31) : (nI a = 4) = (a = 4) := xeq h (by decide)
theorem lle4 {a : Nat} (h : a < 2 ^ 31) : (nI a ≤ 4) = (a ≤ 4) := xle h (by decide)
theorem lge4 {a : Nat} (h : a < 2 ^ 31) : (4 ≤ nI a) = (4 ≤ a) := xle (by decide) h
theorem llt4 {a : Nat} (h : a < 2 ^ 31) : (nI a < 4) = (a < 4) := xlt h (by decide)
theorem lgt4 {a : Nat} (h : a < 2 ^ 31) : (4 < nI a) = (4 < a) := xlt (by decide) h
theorem lmu4 {a : Nat} : (4 : Int32) * nI a = nI (4 * a) := pk_mul 4 a
theorem lmv4 {a : Nat} : nI a * (4 : Int32) = nI (a * 4) := pk_mul a 4
theorem lad4 {a : Nat} : nI a + (4 : Int32) = nI (a + 4) := nI_add a 4
theorem lsu4 {a : Nat} (h : 4 ≤ a) : nI a - (4 : Int32) = nI (a - 4) := pk_sub h
theorem ldi4 {a : Nat} (h : a < 2 ^ 31) : nI a / (4 : Int32) = nI (a / 4) := pk_div h (by decide) (by decide)
theorem leq5 {a : Nat} (h : a < 2 ^ 31) : (nI a = 5) = (a = 5) := xeq h (by decide)
theorem lle5 {a : Nat} (h : a < 2 ^ 31) : (nI a ≤ 5) = (a ≤ 5) := xle h (by decide)
theorem lge5 {a : Nat} (h : a < 2 ^ 31) : (5 ≤ nI a) = (5 ≤ a) := xle (by decide) h
theorem llt5 {a : Nat} (h : a < 2 ^ 31) : (nI a < 5) = (a < 5) := xlt h (by decide)
theorem lgt5 {a : Nat} (h : a < 2 ^ 31) : (5 < nI a) = (5 < a) := xlt (by decide) h
theorem lmu5 {a : Nat} : (5 : Int32) * nI a = nI (5 * a) := pk_mul 5 a
theorem lmv5 {a : Nat} : nI a * (5 : Int32) = nI (a * 5) := pk_mul a 5
theorem lad5 {a : Nat} : nI a + (5 : Int32) = nI (a + 5) := nI_add a 5
theorem lsu5 {a : Nat} (h : 5 ≤ a) : nI a - (5 : Int32) = nI (a - 5) := pk_sub h
theorem ldi5 {a : Nat} (h : a < 2 ^ 31) : nI a / (5 : Int32) = nI (a / 5) := pk_div h (by decide) (by decide)
theorem leq6 {a : Nat} (h : a < 2 ^ 31) : (nI a = 6) = (a = 6) := xeq h (by decide)
theorem lle6 {a : Nat} (h : a < 2 ^ 31) : (nI a ≤ 6) = (a ≤ 6) := xle h (by decide)
theorem lge6 {a : Nat} (h : a < 2 ^ 31) : (6 ≤ nI a) = (6 ≤ a) := xle (by decide) h
theorem llt6 {a : Nat} (h : a < 2 ^ 31) : (nI a < 6) = (a < 6) := xlt h (by decide)
theorem lgt6 {a : Nat} (h : a < 2 ^ 31) : (6 < nI a) = (6 < a) := xlt (by decide) h
theorem lmu6 {a : Nat} : (6 : Int32) * nI a = nI (6 * a) := pk_mul 6 a
theorem lmv6 {a : Nat} : nI a * (6 : Int32) = nI (a * 6) := pk_mul a 6
theorem lad6 {a : Nat} : nI a + (6 : Int32) = nI (a + 6) := nI_add a 6
theorem lsu6 {a : Nat} (h : 6 ≤ a) : nI a - (6 : Int32) = nI (a - 6) := pk_sub h
theorem ldi6 {a : Nat} (h : a < 2 ^ 31) : nI a / (6 : Int32) = nI (a / 6) := pk_div h (by decide) (by decide)
theorem leq8 {a : Nat} (h : a < 2 ^ 31) : (nI a = 8) = (a = 8) := xeq h (by decide)
theorem lle8 {a : Nat} (h : a < 2 ^ 31) : (nI a ≤ 8) = (a ≤ 8) := xle h (by decide)
theorem lge8 {a : Nat} (h : a < 2 ^ 31) : (8 ≤ nI a) = (8 ≤ a) := xle (by decide) h
theorem llt8 {a : Nat} (h : a < 2 ^ 31) : (nI a < 8) = (a < 8) := xlt h (by decide)
theorem lgt8 {a : Nat} (h : a < 2 ^ 31) : (8 < nI a) = (8 < a) := xlt (by decide) h
theorem lmu8 {a : Nat} : (8 : Int32) * nI a = nI (8 * a) := pk_mul 8 a
theorem lmv8 {a : Nat} : nI a * (8 : Int32) = nI (a * 8) := pk_mul a 8
theorem lad8 {a : Nat} : nI a + (8 : Int32) = nI (a + 8) := nI_add a 8
theorem lsu8 {a : Nat} (h : 8 ≤ a) : nI a - (8 : Int32) = nI (a - 8) := pk_sub h
theorem ldi8 {a : Nat} (h : a < 2 ^ 31) : nI a / (8 : Int32) = nI (a / 8) := pk_div h (by decide) (by decide)
theorem leq9 {a : Nat} (h : a < 2 ^ 31) : (nI a = 9) = (a = 9) := xeq h (by decide)
theorem lle9 {a : Nat} (h : a < 2 ^ 31) : (nI a ≤ 9) = (a ≤ 9) := xle h (by decide)
theorem lge9 {a : Nat} (h : a < 2 ^ 31) : (9 ≤ nI a) = (9 ≤ a) := xle (by decide) h
theorem llt9 {a : Nat} (h : a < 2 ^ 31) : (nI a < 9) = (a < 9) := xlt h (by decide)
theorem lgt9 {a : Nat} (h : a < 2 ^ 31) : (9 < nI a) = (9 < a) := xlt (by decide) h
theorem lmu9 {a : Nat} : (9 : Int32) * nI a = nI (9 * a) := pk_mul 9 a
theorem lmv9 {a : Nat} : nI a * (9 : Int32) = nI (a * 9) := pk_mul a 9
theorem lad9 {a : Nat} : nI a + (9 : Int32) = nI (a + 9) := nI_add a 9
theorem lsu9 {a : Nat} (h : 9 ≤ a) : nI a - (9 : Int32) = nI (a - 9) := pk_sub h
theorem ldi9 {a : Nat} (h : a < 2 ^ 31) : nI a / (9 : Int32) = nI (a / 9) := pk_div h (by decide) (by decide)
theorem leq10 {a : Nat} (h : a < 2 ^ 31) : (nI a = 10) = (a = 10) := xeq h (by decide)
theorem lle10 {a : Nat} (h : a < 2 ^ 31) : (nI a ≤ 10) = (a ≤ 10) := xle h (by decide)
theorem lge10 {a : Nat} (h : a < 2 ^ 31) : (10 ≤ nI a) = (10 ≤ a) := xle (by decide) h
theorem llt10 {a : Nat} (h : a < 2 ^ 31) : (nI a < 10) = (a < 10) := xlt h (by decide)
theorem lgt10 {a : Nat} (h : a < 2 ^ 31) : (10 < nI a) = (10 < a) := xlt (by decide) h
theorem lmu10 {a : Nat} : (10 : Int32) * nI a = nI (10 * a) := pk_mul 10 a
theorem lmv10 {a : Nat} : nI a * (10 : Int32) = nI (a * 10) := pk_mul a 10
theorem lad10 {a : Nat} : nI a + (10 : Int32) = nI (a + 10) := nI_add a 10
theorem lsu10 {a : Nat} (h : 10 ≤ a) : nI a - (10 : Int32) = nI (a - 10) := pk_sub h
theorem ldi10 {a : Nat} (h : a < 2 ^ 31) : nI a / (10 : Int32) = nI (a / 10) := pk_div h (by decide) (by decide)
theorem leq12 {a : Nat} (h : a < 2 ^ 31) : (nI a = 12) = (a = 12) := xeq h (by decide)
theorem lle12 {a : Nat} (h : a < 2 ^ 31) : (nI a ≤ 12) = (a ≤ 12) := xle h (by decide)
theorem lge12 {a : Nat} (h : a < 2 ^ 31) : (12 ≤ nI a) = (12 ≤ a) := xle (by decide) h
theorem llt12 {a : Nat} (h : a < 2 ^ 31) : (nI a < 12) = (a < 12) := xlt h (by decide)
theorem lgt12 {a : Nat} (h : a < 2 ^ 31) : (12 < nI a) = (12 < a) := xlt (by decide) h
theorem lmu12 {a : Nat} : (12 : Int32) * nI a = nI (12 * a) := pk_mul 12 a
theorem lmv12 {a : Nat} : nI a * (12 : Int32) = nI (a * 12) := pk_mul a 12
theorem lad12 {a : Nat} : nI a + (12 : Int32) = nI (a + 12) := nI_add a 12
theorem lsu12 {a : Nat} (h : 12 ≤ a) : nI a - (12 : Int32) = nI (a - 12) := pk_sub h
theorem ldi12 {a : Nat} (h : a < 2 ^ 31) : nI a / (12 : Int32) = nI (a / 12) := pk_div h (by decide) (by decide)
theorem leq20 {a : Nat} (h : a < 2 ^ 31) : (nI a = 20) = (a = 20) := xeq h (by decide)
theorem lle20 {a : Nat} (h : a < 2 ^ 31) : (nI a ≤ 20) = (a ≤ 20) := xle h (by decide)
theorem lge20 {a : Nat} (h : a < 2 ^ 31) : (20 ≤ nI a) = (20 ≤ a) := xle (by decide) h
theorem llt20 {a : Nat} (h : a < 2 ^ 31) : (nI a < 20) = (a < 20) := xlt h (by decide)
theorem lgt20 {a : Nat} (h : a < 2 ^ 31) : (20 < nI a) = (20 < a) := xlt (by decide) h
theorem lmu20 {a : Nat} : (20 : Int32) * nI a = nI (20 * a) := pk_mul 20 a
theorem lmv20 {a : Nat} : nI a * (20 : Int32) = nI (a * 20) := pk_mul a 20
theorem lad20 {a : Nat} : nI a + (20 : Int32) = nI (a + 20) := nI_add a 20
theorem lsu20 {a : Nat} (h : 20 ≤ a) : nI a - (20 : Int32) = nI (a - 20) := pk_sub h
theorem ldi20 {a : Nat} (h : a < 2 ^ 31) : nI a / (20 : Int32) = nI (a / 20) := pk_div h (by decide) (by decide)
theorem leq25 {a : Nat} (h : a < 2 ^ 31) : (nI a = 25) = (a = 25) := xeq h (by decide)
theorem lle25 {a : Nat} (h : a < 2 ^ 31) : (nI a ≤ 25) = (a ≤ 25) := xle h (by decide)
theorem lge25 {a : Nat} (h : a < 2 ^ 31) : (25 ≤ nI a) = (25 ≤ a) := xle (by decide) h
theorem llt25 {a : Nat} (h : a < 2 ^ 31) : (nI a < 25) = (a < 25) := xlt h (by decide)
theorem lgt25 {a : Nat} (h : a < 2 ^ 31) : (25 < nI a) = (25 < a) := xlt (by decide) h
theorem lmu25 {a : Nat} : (25 : Int32) * nI a = nI (25 * a) := pk_mul 25 a
theorem lmv25 {a : Nat} : nI a * (25 : Int32) = nI (a * 25) := pk_mul a 25
theorem lad25 {a : Nat} : nI a + (25 : Int32) = nI (a + 25) := nI_add a 25
theorem lsu25 {a : Nat} (h : 25 ≤ a) : nI a - (25 : Int32) = nI (a - 25) := pk_sub h
theorem ldi25 {a : Nat} (h : a < 2 ^ 31) : nI a / (25 : Int32) = nI (a / 25) := pk_div h (by decide) (by decide)
theorem leq30 {a : Nat} (h : a < 2 ^ 31) : (nI a = 30) = (a = 30) := xeq h (by decide)
theorem lle30 {a : Nat} (h : a < 2 ^ 31) : (nI a ≤ 30) = (a ≤ 30) := xle h (by decide)
theorem lge30 {a : Nat} (h : a < 2 ^ 31) : (30 ≤ nI a) = (30 ≤ a) := xle (by decide) h
theorem llt30 {a : Nat} (h : a < 2 ^ 31) : (nI a < 30) = (a < 30) := xlt h (by decide)
theorem lgt30 {a : Nat} (h : a < 2 ^ 31) : (30 < nI a) = (30 < a) := xlt (by decide) h
theorem lmu30 {a : Nat} : (30 : Int32) * nI a = nI (30 * a) := pk_mul 30 a
theorem lmv30 {a : Nat} : nI a * (30 : Int32) = nI (a * 30) := pk_mul a 30
theorem lad30 {a : Nat} : nI a + (30 : Int32) = nI (a + 30) := nI_add a 30
theorem lsu30 {a : Nat} (h : 30 ≤ a) : nI a - (30 : Int32) = nI (a - 30) := pk_sub h
theorem ldi30 {a : Nat} (h : a < 2 ^ 31) : nI a / (30 : Int32) = nI (a / 30) := pk_div h (by decide) (by decide)
theorem leq48 {a : Nat} (h : a < 2 ^ 31) : (nI a = 48) = (a = 48) := xeq h (by decide)
theorem lle48 {a : Nat} (h : a < 2 ^ 31) : (nI a ≤ 48) = (a ≤ 48) := xle h (by decide)
theorem lge48 {a : Nat} (h : a < 2 ^ 31) : (48 ≤ nI a) = (48 ≤ a) := xle (by decide) h
theorem llt48 {a : Nat} (h : a < 2 ^ 31) : (nI a < 48) = (a < 48) := xlt h (by decide)
theorem lgt48 {a : Nat} (h : a < 2 ^ 31) : (48 < nI a) = (48 < a) := xlt (by decide) h
theorem lmu48 {a : Nat} : (48 : Int32) * nI a = nI (48 * a) := pk_mul 48 a
theorem lmv48 {a : Nat} : nI a * (48 : Int32) = nI (a * 48) := pk_mul a 48
theorem lad48 {a : Nat} : nI a + (48 : Int32) = nI (a + 48) := nI_add a 48
theorem lsu48 {a : Nat} (h : 48 ≤ a) : nI a - (48 : Int32) = nI (a - 48) := pk_sub h
theorem ldi48 {a : Nat} (h : a < 2 ^ 31) : nI a / (48 : Int32) = nI (a / 48) := pk_div h (by decide) (by decide)
theorem leq50 {a : Nat} (h : a < 2 ^ 31) : (nI a = 50) = (a = 50) := xeq h (by decide)
theorem lle50 {a : Nat} (h : a < 2 ^ 31) : (nI a ≤ 50) = (a ≤ 50) := xle h (by decide)
theorem lge50 {a : Nat} (h : a < 2 ^ 31) : (50 ≤ nI a) = (50 ≤ a) := xle (by decide) h
theorem llt50 {a : Nat} (h : a < 2 ^ 31) : (nI a < 50) = (a < 50) := xlt h (by decide)
theorem lgt50 {a : Nat} (h : a < 2 ^ 31) : (50 < nI a) = (50 < a) := xlt (by decide) h
theorem lmu50 {a : Nat} : (50 : Int32) * nI a = nI (50 * a) := pk_mul 50 a
theorem lmv50 {a : Nat} : nI a * (50 : Int32) = nI (a * 50) := pk_mul a 50
theorem lad50 {a : Nat} : nI a + (50 : Int32) = nI (a + 50) := nI_add a 50
theorem lsu50 {a : Nat} (h : 50 ≤ a) : nI a - (50 : Int32) = nI (a - 50) := pk_sub h
theorem ldi50 {a : Nat} (h : a < 2 ^ 31) : nI a / (50 : Int32) = nI (a / 50) := pk_div h (by decide) (by decide)
theorem leq99 {a : Nat} (h : a < 2 ^ 31) : (nI a = 99) = (a = 99) := xeq h (by decide)
theorem lle99 {a : Nat} (h : a < 2 ^ 31) : (nI a ≤ 99) = (a ≤ 99) := xle h (by decide)
theorem lge99 {a : Nat} (h : a < 2 ^ 31) : (99 ≤ nI a) = (99 ≤ a) := xle (by decide) h
theorem llt99 {a : Nat} (h : a < 2 ^ 31) : (nI a < 99) = (a < 99) := xlt h (by decide)
theorem lgt99 {a : Nat} (h : a < 2 ^ 31) : (99 < nI a) = (99 < a) := xlt (by decide) h
theorem lmu99 {a : Nat} : (99 : Int32) * nI a = nI (99 * a) := pk_mul 99 a
theorem lmv99 {a : Nat} : nI a * (99 : Int32) = nI (a * 99) := pk_mul a 99
theorem lad99 {a : Nat} : nI a + (99 : Int32) = nI (a + 99) := nI_add a 99
theorem lsu99 {a : Nat} (h : 99 ≤ a) : nI a - (99 : Int32) = nI (a - 99) := pk_sub h
theorem ldi99 {a : Nat} (h : a < 2 ^ 31) : nI a / (99 : Int32) = nI (a / 99) := pk_div h (by decide) (by decide)
theorem leq100 {a : Nat} (h : a < 2 ^ 31) : (nI a = 100) = (a = 100) := xeq h (by decide)
theorem lle100 {a : Nat} (h : a < 2 ^ 31) : (nI a ≤ 100) = (a ≤ 100) := xle h (by decide)
theorem lge100 {a : Nat} (h : a < 2 ^ 31) : (100 ≤ nI a) = (100 ≤ a) := xle (by decide) h
theorem llt100 {a : Nat} (h : a < 2 ^ 31) : (nI a < 100) = (a < 100) := xlt h (by decide)
theorem lgt100 {a : Nat} (h : a < 2 ^ 31) : (100 < nI a) = (100 < a) := xlt (by decide) h
theorem lmu100 {a : Nat} : (100 : Int32) * nI a = nI (100 * a) := pk_mul 100 a
theorem lmv100 {a : Nat} : nI a * (100 : Int32) = nI (a * 100) := pk_mul a 100
theorem lad100 {a : Nat} : nI a + (100 : Int32) = nI (a + 100) := nI_add a 100
theorem lsu100 {a : Nat} (h : 100 ≤ a) : nI a - (100 : Int32) = nI (a - 100) := pk_sub h
theorem ldi100 {a : Nat} (h : a < 2 ^ 31) : nI a / (100 : Int32) = nI (a / 100) := pk_div h (by decide) (by decide)
theorem leq2000 {a : Nat} (h : a < 2 ^ 31) : (nI a = 2000) = (a = 2000) := xeq h (by decide)
theorem lle2000 {a : Nat} (h : a < 2 ^ 31) : (nI a ≤ 2000) = (a ≤ 2000) := xle h (by decide)
theorem lge2000 {a : Nat} (h : a < 2 ^ 31) : (2000 ≤ nI a) = (2000 ≤ a) := xle (by decide) h
theorem llt2000 {a : Nat} (h : a < 2 ^ 31) : (nI a < 2000) = (a < 2000) := xlt h (by decide)
theorem lgt2000 {a : Nat} (h : a < 2 ^ 31) : (2000 < nI a) = (2000 < a) := xlt (by decide) h
theorem lmu2000 {a : Nat} : (2000 : Int32) * nI a = nI (2000 * a) := pk_mul 2000 a
theorem lmv2000 {a : Nat} : nI a * (2000 : Int32) = nI (a * 2000) := pk_mul a 2000
theorem lad2000 {a : Nat} : nI a + (2000 : Int32) = nI (a + 2000) := nI_add a 2000
theorem lsu2000 {a : Nat} (h : 2000 ≤ a) : nI a - (2000 : Int32) = nI (a - 2000) := pk_sub h
theorem ldi2000 {a : Nat} (h : a < 2 ^ 31) : nI a / (2000 : Int32) = nI (a / 2000) := pk_div h (by decide) (by decide)
theorem lad0 {a : Nat} : nI a + (0 : Int32) = nI a := Int32.add_zero _
theorem nIm1 {a : Nat} (h : 1 ≤ a) : nI a - 1 = nI (a - 1) := pk_sub h
/-- what the model's state keeps -/
def MI (σ : xS) : Prop :=
  σ 0 0 ≤ 2000 ∧ σ 1 0 ≤ 50 ∧ σ 2 0 ≤ 20 ∧ σ 3 0 ≤ 10 ∧
  (∀ w, w < 10 → σ 4 w ≤ 12 ∧ σ 5 w ≤ 2 ∧ σ 6 w ≤ 30) ∧ (∀ w, w < σ 3 0 → 1 ≤ σ 4 w) ∧
  (∀ a, a < 120 → σ 7 a ≤ 1 ∧ σ 8 a ≤ 6) ∧
  (∀ c, c < 720 → σ 9 c ≤ 3 ∧ σ 10 c ≤ 20 ∧ σ 11 c ≤ 2000 ∧ σ 12 c ≤ 200 ∧ σ 13 c ≤ 1 ∧ σ 14 c ≤ 1 ∧ σ 15 c ≤ 1) ∧
  σ 16 0 ≤ 10 ∧ (∀ p, p < 10 → σ 17 p ≤ 8) ∧ (∀ p, p < σ 16 0 → 1 ≤ σ 17 p) ∧ (∀ d, d < 80 → σ 18 d ≤ 100) ∧ (∀ p i, p < σ 16 0 → i < σ 17 p → 1 ≤ σ 18 (8 * p + i)) ∧
  (∀ g, g < 10 → σ 19 g ≤ 3) ∧ σ 20 0 ≤ 30 ∧ (∀ q, q < 30 → σ 21 q ≤ 2000) ∧ (∀ c, c < 48 → σ 22 c ≤ σ 20 0 ∧ σ 23 c ≤ 10 ∧ σ 24 c ≤ 1) ∧
  (∀ w s, w < 10 → s < 12 → ¬ (w < σ 3 0 ∧ s < σ 4 w) → σ 8 (12 * w + s) = 0)
def need (p : Nat) : Nat := if p = 0 then 4 else if p = 2 then 2 else 3
def shr (p : Nat) : Nat := if p = 0 then 2 else if p = 1 then 3 else if p = 2 then 0 else 5
def keyG (g : Nat) : Nat := if g = 0 then 20 else if g = 1 then 30 else 10
section
variable {κ : Nat → Nat} {R : xR → xH → Prop} {ad : Nat → Nat} {m : Nat} {ah0 ah : xH} {σ : xS} {th : Nat}
/-! signs of the walk that simp decides -/
theorem i10 : ((1 : Int32) = 0) = False := by decide
theorem i20 : ((2 : Int32) = 0) = False := by decide
theorem i30 : ((3 : Int32) = 0) = False := by decide
theorem n00 : (0 = 0) = True := eq_true rfl
theorem n10 : (1 = 0) = False := by decide
theorem n20 : (2 = 0) = False := by decide
theorem n30 : (3 = 0) = False := by decide
theorem k00 : (nI 0 = 0) = True := by decide
theorem k10 : (nI 1 = 0) = False := by decide
theorem k20 : (nI 2 = 0) = False := by decide
theorem k30 : (nI 3 = 0) = False := by decide
theorem i00 : ((0 : Int32) = 0) = True := by decide
theorem MR.is (h : MR ad m ah0 ah σ th) : xis ah m 11 := by
  obtain ⟨fs, h1, -⟩ := xfld_some h.1
  exact ⟨fs, h1⟩
theorem MR.r4 (h : MR ad m ah0 ah σ th) : ∃ f, xai ah (ad 4) 0 = some (10, f) ∧ ∀ i, i < 10 → f i = nI (σ 4 i) := h.r 4
theorem MR.w4 (h : MR ad m ah0 ah σ th) (i v : Nat) {f : Nat → Int32} (hf : xai ah (ad 4) 0 = some (10, f)) (hi : i < 10) {x : Int32} (hx : x = nI v) : MR ad m ah0 (xup ah (ad 4) (.inl (0, 10, .inl (upd f i x)))) (su σ 4 i v) th := h.wr 4 i v (by decide) hf hi hx
theorem MR.r5 (h : MR ad m ah0 ah σ th) : ∃ f, xai ah (ad 5) 0 = some (10, f) ∧ ∀ i, i < 10 → f i = nI (σ 5 i) := h.r 5
theorem MR.w5 (h : MR ad m ah0 ah σ th) (i v : Nat) {f : Nat → Int32} (hf : xai ah (ad 5) 0 = some (10, f)) (hi : i < 10) {x : Int32} (hx : x = nI v) : MR ad m ah0 (xup ah (ad 5) (.inl (0, 10, .inl (upd f i x)))) (su σ 5 i v) th := h.wr 5 i v (by decide) hf hi hx
theorem MR.r6 (h : MR ad m ah0 ah σ th) : ∃ f, xai ah (ad 6) 0 = some (10, f) ∧ ∀ i, i < 10 → f i = nI (σ 6 i) := h.r 6
theorem MR.w6 (h : MR ad m ah0 ah σ th) (i v : Nat) {f : Nat → Int32} (hf : xai ah (ad 6) 0 = some (10, f)) (hi : i < 10) {x : Int32} (hx : x = nI v) : MR ad m ah0 (xup ah (ad 6) (.inl (0, 10, .inl (upd f i x)))) (su σ 6 i v) th := h.wr 6 i v (by decide) hf hi hx
theorem MR.r7 (h : MR ad m ah0 ah σ th) : ∃ f, xai ah (ad 7) 1 = some (120, f) ∧ ∀ i, i < 120 → f i = nI (σ 7 i) := h.r 7
theorem MR.w7 (h : MR ad m ah0 ah σ th) (i v : Nat) {f : Nat → Int32} (hf : xai ah (ad 7) 1 = some (120, f)) (hi : i < 120) {x : Int32} (hx : x = nI v) : MR ad m ah0 (xup ah (ad 7) (.inl (1, 120, .inl (upd f i x)))) (su σ 7 i v) th := h.wr 7 i v (by decide) hf hi hx
theorem MR.r8 (h : MR ad m ah0 ah σ th) : ∃ f, xai ah (ad 8) 0 = some (120, f) ∧ ∀ i, i < 120 → f i = nI (σ 8 i) := h.r 8
theorem MR.w8 (h : MR ad m ah0 ah σ th) (i v : Nat) {f : Nat → Int32} (hf : xai ah (ad 8) 0 = some (120, f)) (hi : i < 120) {x : Int32} (hx : x = nI v) : MR ad m ah0 (xup ah (ad 8) (.inl (0, 120, .inl (upd f i x)))) (su σ 8 i v) th := h.wr 8 i v (by decide) hf hi hx
theorem MR.r9 (h : MR ad m ah0 ah σ th) : ∃ f, xai ah (ad 9) 0 = some (720, f) ∧ ∀ i, i < 720 → f i = nI (σ 9 i) := h.r 9
theorem MR.w9 (h : MR ad m ah0 ah σ th) (i v : Nat) {f : Nat → Int32} (hf : xai ah (ad 9) 0 = some (720, f)) (hi : i < 720) {x : Int32} (hx : x = nI v) : MR ad m ah0 (xup ah (ad 9) (.inl (0, 720, .inl (upd f i x)))) (su σ 9 i v) th := h.wr 9 i v (by decide) hf hi hx
theorem MR.r10 (h : MR ad m ah0 ah σ th) : ∃ f, xai ah (ad 10) 0 = some (720, f) ∧ ∀ i, i < 720 → f i = nI (σ 10 i) := h.r 10
theorem MR.w10 (h : MR ad m ah0 ah σ th) (i v : Nat) {f : Nat → Int32} (hf : xai ah (ad 10) 0 = some (720, f)) (hi : i < 720) {x : Int32} (hx : x = nI v) : MR ad m ah0 (xup ah (ad 10) (.inl (0, 720, .inl (upd f i x)))) (su σ 10 i v) th := h.wr 10 i v (by decide) hf hi hx
theorem MR.r11 (h : MR ad m ah0 ah σ th) : ∃ f, xai ah (ad 11) 0 = some (720, f) ∧ ∀ i, i < 720 → f i = nI (σ 11 i) := h.r 11
theorem MR.w11 (h : MR ad m ah0 ah σ th) (i v : Nat) {f : Nat → Int32} (hf : xai ah (ad 11) 0 = some (720, f)) (hi : i < 720) {x : Int32} (hx : x = nI v) : MR ad m ah0 (xup ah (ad 11) (.inl (0, 720, .inl (upd f i x)))) (su σ 11 i v) th := h.wr 11 i v (by decide) hf hi hx
theorem MR.r12 (h : MR ad m ah0 ah σ th) : ∃ f, xai ah (ad 12) 0 = some (720, f) ∧ ∀ i, i < 720 → f i = nI (σ 12 i) := h.r 12
theorem MR.w12 (h : MR ad m ah0 ah σ th) (i v : Nat) {f : Nat → Int32} (hf : xai ah (ad 12) 0 = some (720, f)) (hi : i < 720) {x : Int32} (hx : x = nI v) : MR ad m ah0 (xup ah (ad 12) (.inl (0, 720, .inl (upd f i x)))) (su σ 12 i v) th := h.wr 12 i v (by decide) hf hi hx
theorem MR.r13 (h : MR ad m ah0 ah σ th) : ∃ f, xai ah (ad 13) 1 = some (720, f) ∧ ∀ i, i < 720 → f i = nI (σ 13 i) := h.r 13
theorem MR.w13 (h : MR ad m ah0 ah σ th) (i v : Nat) {f : Nat → Int32} (hf : xai ah (ad 13) 1 = some (720, f)) (hi : i < 720) {x : Int32} (hx : x = nI v) : MR ad m ah0 (xup ah (ad 13) (.inl (1, 720, .inl (upd f i x)))) (su σ 13 i v) th := h.wr 13 i v (by decide) hf hi hx
theorem MR.r14 (h : MR ad m ah0 ah σ th) : ∃ f, xai ah (ad 14) 1 = some (720, f) ∧ ∀ i, i < 720 → f i = nI (σ 14 i) := h.r 14
theorem MR.w14 (h : MR ad m ah0 ah σ th) (i v : Nat) {f : Nat → Int32} (hf : xai ah (ad 14) 1 = some (720, f)) (hi : i < 720) {x : Int32} (hx : x = nI v) : MR ad m ah0 (xup ah (ad 14) (.inl (1, 720, .inl (upd f i x)))) (su σ 14 i v) th := h.wr 14 i v (by decide) hf hi hx
theorem MR.r15 (h : MR ad m ah0 ah σ th) : ∃ f, xai ah (ad 15) 1 = some (720, f) ∧ ∀ i, i < 720 → f i = nI (σ 15 i) := h.r 15
theorem MR.w15 (h : MR ad m ah0 ah σ th) (i v : Nat) {f : Nat → Int32} (hf : xai ah (ad 15) 1 = some (720, f)) (hi : i < 720) {x : Int32} (hx : x = nI v) : MR ad m ah0 (xup ah (ad 15) (.inl (1, 720, .inl (upd f i x)))) (su σ 15 i v) th := h.wr 15 i v (by decide) hf hi hx
theorem MR.r17 (h : MR ad m ah0 ah σ th) : ∃ f, xai ah (ad 17) 0 = some (10, f) ∧ ∀ i, i < 10 → f i = nI (σ 17 i) := h.r 17
theorem MR.w17 (h : MR ad m ah0 ah σ th) (i v : Nat) {f : Nat → Int32} (hf : xai ah (ad 17) 0 = some (10, f)) (hi : i < 10) {x : Int32} (hx : x = nI v) : MR ad m ah0 (xup ah (ad 17) (.inl (0, 10, .inl (upd f i x)))) (su σ 17 i v) th := h.wr 17 i v (by decide) hf hi hx
theorem MR.r18 (h : MR ad m ah0 ah σ th) : ∃ f, xai ah (ad 18) 0 = some (80, f) ∧ ∀ i, i < 80 → f i = nI (σ 18 i) := h.r 18
theorem MR.w18 (h : MR ad m ah0 ah σ th) (i v : Nat) {f : Nat → Int32} (hf : xai ah (ad 18) 0 = some (80, f)) (hi : i < 80) {x : Int32} (hx : x = nI v) : MR ad m ah0 (xup ah (ad 18) (.inl (0, 80, .inl (upd f i x)))) (su σ 18 i v) th := h.wr 18 i v (by decide) hf hi hx
theorem MR.r19 (h : MR ad m ah0 ah σ th) : ∃ f, xai ah (ad 19) 0 = some (10, f) ∧ ∀ i, i < 10 → f i = nI (σ 19 i) := h.r 19
theorem MR.w19 (h : MR ad m ah0 ah σ th) (i v : Nat) {f : Nat → Int32} (hf : xai ah (ad 19) 0 = some (10, f)) (hi : i < 10) {x : Int32} (hx : x = nI v) : MR ad m ah0 (xup ah (ad 19) (.inl (0, 10, .inl (upd f i x)))) (su σ 19 i v) th := h.wr 19 i v (by decide) hf hi hx
theorem MR.r21 (h : MR ad m ah0 ah σ th) : ∃ f, xai ah (ad 21) 0 = some (30, f) ∧ ∀ i, i < 30 → f i = nI (σ 21 i) := h.r 21
theorem MR.w21 (h : MR ad m ah0 ah σ th) (i v : Nat) {f : Nat → Int32} (hf : xai ah (ad 21) 0 = some (30, f)) (hi : i < 30) {x : Int32} (hx : x = nI v) : MR ad m ah0 (xup ah (ad 21) (.inl (0, 30, .inl (upd f i x)))) (su σ 21 i v) th := h.wr 21 i v (by decide) hf hi hx
theorem MR.r22 (h : MR ad m ah0 ah σ th) : ∃ f, xai ah (ad 22) 0 = some (48, f) ∧ ∀ i, i < 48 → f i = cv 22 (σ 22 i) := h.r 22
theorem MR.w22 (h : MR ad m ah0 ah σ th) (i v : Nat) {f : Nat → Int32} (hf : xai ah (ad 22) 0 = some (48, f)) (hi : i < 48) {x : Int32} (hx : x = cv 22 v) : MR ad m ah0 (xup ah (ad 22) (.inl (0, 48, .inl (upd f i x)))) (su σ 22 i v) th := h.wr 22 i v (by decide) hf hi hx
theorem MR.r23 (h : MR ad m ah0 ah σ th) : ∃ f, xai ah (ad 23) 0 = some (48, f) ∧ ∀ i, i < 48 → f i = cv 23 (σ 23 i) := h.r 23
theorem MR.w23 (h : MR ad m ah0 ah σ th) (i v : Nat) {f : Nat → Int32} (hf : xai ah (ad 23) 0 = some (48, f)) (hi : i < 48) {x : Int32} (hx : x = cv 23 v) : MR ad m ah0 (xup ah (ad 23) (.inl (0, 48, .inl (upd f i x)))) (su σ 23 i v) th := h.wr 23 i v (by decide) hf hi hx
theorem MR.r24 (h : MR ad m ah0 ah σ th) : ∃ f, xai ah (ad 24) 1 = some (48, f) ∧ ∀ i, i < 48 → f i = nI (σ 24 i) := h.r 24
theorem MR.w24 (h : MR ad m ah0 ah σ th) (i v : Nat) {f : Nat → Int32} (hf : xai ah (ad 24) 1 = some (48, f)) (hi : i < 48) {x : Int32} (hx : x = nI v) : MR ad m ah0 (xup ah (ad 24) (.inl (1, 48, .inl (upd f i x)))) (su σ 24 i v) th := h.wr 24 i v (by decide) hf hi hx
theorem MR.r25 (h : MR ad m ah0 ah σ th) : ∃ f, xai ah (ad 25) 1 = some (48, f) ∧ ∀ i, i < 48 → f i = nI (σ 25 i) := h.r 25
theorem MR.w25 (h : MR ad m ah0 ah σ th) (i v : Nat) {f : Nat → Int32} (hf : xai ah (ad 25) 1 = some (48, f)) (hi : i < 48) {x : Int32} (hx : x = nI v) : MR ad m ah0 (xup ah (ad 25) (.inl (1, 48, .inl (upd f i x)))) (su σ 25 i v) th := h.wr 25 i v (by decide) hf hi hx
theorem sp_isBtw {v : Int32} {a b : Nat} (ha : a < 2 ^ 31) (hb : b < 2 ^ 31) : xm κ 94 [.int v, .int (OfNat.ofNat a), .int (OfNat.ofNat b)] ah R ↔ R (.inl (some (.int (xb (xrg v a b))))) ah := by
  rw [sp_isBetween, xb_congr (xrg_L ha hb)]
theorem sb_0_9 {v : Int32} : xm κ 94 [.int v, .int 0, .int 9] ah R ↔ R (.inl (some (.int (xb (xin v 10))))) ah := by
  rw [sp_isBetween, xb_congr (xrg_L (a := 0) (b := 9) (by decide) (by decide)), xb_congr (xrg_0 (by decide))]
theorem sb_0_99 {v : Int32} : xm κ 94 [.int v, .int 0, .int 99] ah R ↔ R (.inl (some (.int (xb (xin v 100))))) ah := by
  rw [sp_isBetween, xb_congr (xrg_L (a := 0) (b := 99) (by decide) (by decide)), xb_congr (xrg_0 (by decide))]
theorem sb_1_100000 {v : Int32} : xm κ 94 [.int v, .int 1, .int 100000] ah R ↔ R (.inl (some (.int (xb (xrg v 1 100000))))) ah := by
  rw [sp_isBetween, xb_congr (xrg_L (a := 1) (b := 100000) (by decide) (by decide))]
theorem sb_1_12 {v : Int32} : xm κ 94 [.int v, .int 1, .int 12] ah R ↔ R (.inl (some (.int (xb (xrg v 1 12))))) ah := by
  rw [sp_isBetween, xb_congr (xrg_L (a := 1) (b := 12) (by decide) (by decide))]
theorem sb_0_2 {v : Int32} : xm κ 94 [.int v, .int 0, .int 2] ah R ↔ R (.inl (some (.int (xb (xin v 3))))) ah := by
  rw [sp_isBetween, xb_congr (xrg_L (a := 0) (b := 2) (by decide) (by decide)), xb_congr (xrg_0 (by decide))]
theorem sb_0_50 {v : Int32} : xm κ 94 [.int v, .int 0, .int 50] ah R ↔ R (.inl (some (.int (xb (xin v 51))))) ah := by
  rw [sp_isBetween, xb_congr (xrg_L (a := 0) (b := 50) (by decide) (by decide)), xb_congr (xrg_0 (by decide))]
theorem sb_0_20 {v : Int32} : xm κ 94 [.int v, .int 0, .int 20] ah R ↔ R (.inl (some (.int (xb (xin v 21))))) ah := by
  rw [sp_isBetween, xb_congr (xrg_L (a := 0) (b := 20) (by decide) (by decide)), xb_congr (xrg_0 (by decide))]
theorem sb_0_30 {v : Int32} : xm κ 94 [.int v, .int 0, .int 30] ah R ↔ R (.inl (some (.int (xb (xin v 31))))) ah := by
  rw [sp_isBetween, xb_congr (xrg_L (a := 0) (b := 30) (by decide) (by decide)), xb_congr (xrg_0 (by decide))]
theorem sb_0_3 {v : Int32} : xm κ 94 [.int v, .int 0, .int 3] ah R ↔ R (.inl (some (.int (xb (xin v 4))))) ah := by
  rw [sp_isBetween, xb_congr (xrg_L (a := 0) (b := 3) (by decide) (by decide)), xb_congr (xrg_0 (by decide))]
theorem sb_1_20 {v : Int32} : xm κ 94 [.int v, .int 1, .int 20] ah R ↔ R (.inl (some (.int (xb (xrg v 1 20))))) ah := by
  rw [sp_isBetween, xb_congr (xrg_L (a := 1) (b := 20) (by decide) (by decide))]
theorem sb_1_100 {v : Int32} : xm κ 94 [.int v, .int 1, .int 100] ah R ↔ R (.inl (some (.int (xb (xrg v 1 100))))) ah := by
  rw [sp_isBetween, xb_congr (xrg_L (a := 1) (b := 100) (by decide) (by decide))]
theorem sb_0_5 {v : Int32} : xm κ 94 [.int v, .int 0, .int 5] ah R ↔ R (.inl (some (.int (xb (xin v 6))))) ah := by
  rw [sp_isBetween, xb_congr (xrg_L (a := 0) (b := 5) (by decide) (by decide)), xb_congr (xrg_0 (by decide))]
theorem sb_2000_100000 {v : Int32} : xm κ 94 [.int v, .int 2000, .int 100000] ah R ↔ R (.inl (some (.int (xb (xrg v 2000 100000))))) ah := by
  rw [sp_isBetween, xb_congr (xrg_L (a := 2000) (b := 100000) (by decide) (by decide))]
theorem sb_1_1000 {v : Int32} : xm κ 94 [.int v, .int 1, .int 1000] ah R ↔ R (.inl (some (.int (xb (xrg v 1 1000))))) ah := by
  rw [sp_isBetween, xb_congr (xrg_L (a := 1) (b := 1000) (by decide) (by decide))]
theorem sb_0_47 {v : Int32} : xm κ 94 [.int v, .int 0, .int 47] ah R ↔ R (.inl (some (.int (xb (xin v 48))))) ah := by
  rw [sp_isBetween, xb_congr (xrg_L (a := 0) (b := 47) (by decide) (by decide)), xb_congr (xrg_0 (by decide))]
theorem sp_isBtw1 {v : Int32} {n : Nat} (hn : n < 2 ^ 31) : xm κ 94 [.int v, .int 0, .int (nI n - 1)] ah R ↔ R (.inl (some (.int (xb (xin v n))))) ah := by
  rw [sp_isBetween, xb_congr (xin_pred hn)]
theorem sp_needs {p : Nat} (hp : p < 4) : xm κ 99 [.int (nI p)] ah R ↔ R (.inl (some (.int (nI (need p))))) ah := by
  simp only [en99, e99_0, e99_1, e99_4, e99_5, e99_8, e99_9, e99_10, e99_13, e99_14, e99_17, e99_18, xKv, xK0, xKx, xKHv, xKH0, xk_none, xk_i, xk_f, xk_l, xk_r, xk_n, xc_i, xc_f, xc_l, xc_d, xc_r, xc_n, xo_some, List.map_cons, List.map_nil, List.sum_cons, List.sum_nil]
  have : p = 0 ∨ p = 1 ∨ p = 2 ∨ p = 3 := by omega
  rcases this with rfl | rfl | rfl | rfl <;> simp [need, nI]
theorem sp_shrinks {p : Nat} (hp : p < 4) : xm κ 100 [.int (nI p)] ah R ↔ R (.inl (some (.int (nI (shr p))))) ah := by
  simp only [en100, e100_0, e100_1, e100_4, e100_5, e100_8, e100_9, e100_10, e100_13, e100_14, e100_17, e100_18, e100_19, e100_22, e100_23, e100_26, e100_27, xKv, xK0, xKx, xKHv, xKH0, xk_none, xk_i, xk_f, xk_l, xk_r, xk_n, xc_i, xc_f, xc_l, xc_d, xc_r, xc_n, xo_some, List.map_cons, List.map_nil, List.sum_cons, List.sum_nil]
  have : p = 0 ∨ p = 1 ∨ p = 2 ∨ p = 3 := by omega
  rcases this with rfl | rfl | rfl | rfl <;> simp [shr, nI]
theorem sp_keysOf {p : Nat} (hp : p < 3) : xm κ 102 [.int (nI p)] ah R ↔ R (.inl (some (.int (nI (keyG p))))) ah := by
  simp only [en102, e102_0, e102_1, e102_4, e102_6, e102_9, e102_10, e102_11, e102_14, e102_16, e102_19, e102_21, xKv, xK0, xKx, xKHv, xKH0, xk_none, xk_i, xk_f, xk_l, xk_r, xk_n, xc_i, xc_f, xc_l, xc_d, xc_r, xc_n, xo_some, List.map_cons, List.map_nil, List.sum_cons, List.sum_nil]
  have : p = 0 ∨ p = 1 ∨ p = 2 := by omega
  rcases this with rfl | rfl | rfl <;> simp [keyG, nI]
theorem sp_goes {v : Value} {x : Int32} (h : xfld ah m 11 26 = some v) : xm κ 93 [.ref m, .int x] ah R ↔ R (.inl (some (.int (xb (x = 0))))) (xput ah m 26 (.int x)) := by
  simp only [en93, e93_0, e93_0n, e93_1, e93_2, e93_5, e93_6, e93_9, e93_10, e93_13, e93_14, xKv, xK0, xKx, xKHv, xKH0, xk_none, xk_i, xk_f, xk_l, xk_r, xk_n, xc_i, xc_f, xc_l, xc_d, xc_r, xc_n, xo_some, List.map_cons, List.map_nil, List.sum_cons, List.sum_nil, h, Option.isSome_some, true_and, xnz0, xnz1]
  by_cases hx : x = 0
  · simp [hx, xbT]
  · simp [hx, xbF]
theorem sp_thrown {x : Int32} (h : xfld ah m 11 26 = some (.int x)) : xm κ 92 [.ref m] ah R ↔ R (.inl (some (.int x))) ah := by
  simp only [en92, e92_0, e92_0n, e92_1, e92_4, xKv, xK0, xKx, xKHv, xKH0, xk_none, xk_i, xk_f, xk_l, xk_r, xk_n, xc_i, xc_f, xc_l, xc_d, xc_r, xc_n, xo_some, List.map_cons, List.map_nil, List.sum_cons, List.sum_nil, h]
theorem sp_isWall (h : MR ad m ah0 ah σ th) (hI : MI σ) {w : Int32} : xm κ 95 [.ref m, .int w] ah R ↔ R (.inl (some (.int (xb (xin w (σ 3 0)))))) ah := by
  simp only [en95, e95_0, e95_1, e95_2, e95_2n, e95_3, e95_6, e95_7, e95_8, e95_11, xKv, xK0, xKx, xKHv, xKH0, xk_none, xk_i, xk_f, xk_l, xk_r, xk_n, xc_i, xc_f, xc_l, xc_d, xc_r, xc_n, xo_some, List.map_cons, List.map_nil, List.sum_cons, List.sum_nil, h.s 3, sp_isBetween, xnzb, true_and]
  rw [xb_congr (xin_pred (w := w) (n := σ 3 0) (by have := hI.2.2.2.1; omega))]
  simp
end
