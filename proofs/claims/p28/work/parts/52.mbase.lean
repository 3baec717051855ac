/-! the model's small methods over its state -/
def xin (w : Int32) (n : Nat) : Prop := 0 ≤ w ∧ w < nI n
theorem xin_of {w : Int32} {n : Nat} (hn : n < 2 ^ 31) (h : xin w n) : ∃ j, j < n ∧ w = nI j := by
  rcases xint w n hn with h1 | h1
  · exact h1
  · exact absurd h h1
theorem xin_j {j n : Nat} (hj : j < 2 ^ 31) (hn : n < 2 ^ 31) : xin (nI j) n ↔ j < n := by
  unfold xin
  rw [xlt hj hn]
  exact ⟨fun h => h.2, fun h => ⟨nI_pos' hj, h⟩⟩
theorem xin_pred {w : Int32} {n : Nat} (hn : n < 2 ^ 31) : (0 ≤ w ∧ w ≤ nI n - 1) ↔ xin w n := by
  have e : (nI n - 1).toInt = (n : Int) - 1 := by
    have h1 : (nI n).toInt = (n : Int) := nI_toInt hn
    have h2 : (1 : Int32).toInt = 1 := rfl
    rw [Int32.toInt_sub, h1, h2]
    exact Int.bmod_eq_of_le (by omega) (by omega)
  have e0 : (nI n).toInt = (n : Int) := nI_toInt hn
  unfold xin
  rw [Int32.le_iff_toInt_le, Int32.le_iff_toInt_le, Int32.lt_iff_toInt_lt, e, e0]
  omega
theorem xin_not {w : Int32} {n : Nat} (h0 : ¬ w < 0) (h1 : ¬ nI n ≤ w) : xin w n := ⟨Int32.not_lt.mp h0, Int32.not_le.mp h1⟩
theorem xb_congr {p q : Prop} (h : p ↔ q) : xb p = xb q := by rw [propext h]
theorem nI_cl {n : Nat} (h : n < 2 ^ 31) : (nI n).toNatClampNeg = n := nI_clamp h
def xrg (x : Int32) (a b : Nat) : Prop := (a : Int) ≤ x.toInt ∧ x.toInt ≤ (b : Int)
theorem xrg_of {x : Int32} {a b : Nat} (hb : b < 2 ^ 31) (h : xrg x a b) : ∃ j, a ≤ j ∧ j ≤ b ∧ x = nI j := by
  obtain ⟨h1, h2⟩ := h
  have h0 : ¬ x < 0 := by
    rw [Int32.lt_iff_toInt_lt, show (0 : Int32).toInt = 0 from rfl]
    omega
  obtain ⟨j, hj, e⟩ := nI_of h0
  subst e
  rw [nI_toInt hj] at h1 h2
  exact ⟨j, by omega, by omega, rfl⟩
theorem xrg_j {j a b : Nat} (hj : j < 2 ^ 31) : xrg (nI j) a b ↔ a ≤ j ∧ j ≤ b := by
  unfold xrg
  rw [nI_toInt hj]
  omega
theorem xrg_L {x : Int32} {a b : Nat} (ha : a < 2 ^ 31) (hb : b < 2 ^ 31) : ((OfNat.ofNat a : Int32) ≤ x ∧ x ≤ (OfNat.ofNat b : Int32)) ↔ xrg x a b := by
  show (nI a ≤ x ∧ x ≤ nI b) ↔ _
  unfold xrg
  rw [Int32.le_iff_toInt_le, Int32.le_iff_toInt_le, nI_toInt ha, nI_toInt hb]
theorem xrg_0 {x : Int32} {b : Nat} (hb : b + 1 < 2 ^ 31) : xrg x 0 b ↔ xin x (b + 1) := by
  unfold xrg xin
  rw [Int32.le_iff_toInt_le, Int32.lt_iff_toInt_lt, nI_toInt hb, show (0 : Int32).toInt = 0 from rfl]
  omega
noncomputable def xi {α : Type} (p : Prop) (a b : α) : α := @ite _ p (Classical.propDecidable p) a b
theorem xi_t {α : Type} {p : Prop} {a b : α} (h : p) : xi p a b = a := if_pos h
theorem xi_f {α : Type} {p : Prop} {a b : α} (h : ¬ p) : xi p a b = b := if_neg h
theorem xiT {α : Type} {a b : α} : xi True a b = a := if_pos trivial
theorem xiF {α : Type} {a b : α} : xi False a b = b := if_neg id
theorem leq0 {a : Nat} (h : a < 2 ^ 31) : (nI a = 0) = (a = 0) := xeq h (by decide)
theorem lle0 {a : Nat} (h : a < 2 ^ 31) : (nI a ≤ 0) = (a ≤ 0) := xle h (by decide)
theorem lge0 {a : Nat} (h : a < 2 ^ 31) : (0 ≤ nI a) = (0 ≤ a) := xle (by decide) h
theorem llt0 {a : Nat} (h : a < 2 ^ 31) : (nI a < 0) = (a < 0) := xlt h (by decide)
theorem lgt0 {a : Nat} (h : a < 2 ^ 31) : (0 < nI a) = (0 < a) := xlt (by decide) h
theorem leq1 {a : Nat} (h : a < 2 ^ 31) : (nI a = 1) = (a = 1) := xeq h (by decide)
theorem lle1 {a : Nat} (h : a < 2 ^ 31) : (nI a ≤ 1) = (a ≤ 1) := xle h (by decide)
theorem lge1 {a : Nat} (h : a < 2 ^ 31) : (1 ≤ nI a) = (1 ≤ a) := xle (by decide) h
theorem llt1 {a : Nat} (h : a < 2 ^ 31) : (nI a < 1) = (a < 1) := xlt h (by decide)
theorem lgt1 {a : Nat} (h : a < 2 ^ 31) : (1 < nI a) = (1 < a) := xlt (by decide) h
theorem lad1 {a : Nat} : nI a + (1 : Int32) = nI (a + 1) := nI_add a 1
theorem lsu1 {a : Nat} (h : 1 ≤ a) : nI a - (1 : Int32) = nI (a - 1) := pk_sub h
theorem leq2 {a : Nat} (h : a < 2 ^ 31) : (nI a = 2) = (a = 2) := xeq h (by decide)
theorem lle2 {a : Nat} (h : a < 2 ^ 31) : (nI a ≤ 2) = (a ≤ 2) := xle h (by decide)
theorem lge2 {a : Nat} (h : a < 2 ^ 31) : (2 ≤ nI a) = (2 ≤ a) := xle (by decide) h
theorem llt2 {a : Nat} (h : a < 2 ^ 31) : (nI a < 2) = (a < 2) := xlt h (by decide)
theorem lgt2 {a : Nat} (h : a < 2 ^ 31) : (2 < nI a) = (2 < a) := xlt (by decide) h
theorem lmu2 {a : Nat} : (2 : Int32) * nI a = nI (2 * a) := pk_mul 2 a
theorem lmv2 {a : Nat} : nI a * (2 : Int32) = nI (a * 2) := pk_mul a 2
theorem lad2 {a : Nat} : nI a + (2 : Int32) = nI (a + 2) := nI_add a 2
theorem lsu2 {a : Nat} (h : 2 ≤ a) : nI a - (2 : Int32) = nI (a - 2) := pk_sub h
theorem ldi2 {a : Nat} (h : a < 2 ^ 31) : nI a / (2 : Int32) = nI (a / 2) := pk_div h (by decide) (by decide)
theorem leq3 {a : Nat} (h : a < 2 ^ 31) : (nI a = 3) = (a = 3) := xeq h (by decide)
theorem lle3 {a : Nat} (h : a < 2 ^ 31) : (nI a ≤ 3) = (a ≤ 3) := xle h (by decide)
theorem lge3 {a : Nat} (h : a < 2 ^ 31) : (3 ≤ nI a) = (3 ≤ a) := xle (by decide) h
theorem llt3 {a : Nat} (h : a < 2 ^ 31) : (nI a < 3) = (a < 3) := xlt h (by decide)
theorem lgt3 {a : Nat} (h : a < 2 ^ 31) : (3 < nI a) = (3 < a) := xlt (by decide) h
theorem lmu3 {a : Nat} : (3 : Int32) * nI a = nI (3 * a) := pk_mul 3 a
theorem lmv3 {a : Nat} : nI a * (3 : Int32) = nI (a * 3) := pk_mul a 3
theorem lad3 {a : Nat} : nI a + (3 : Int32) = nI (a + 3) := nI_add a 3
theorem lsu3 {a : Nat} (h : 3 ≤ a) : nI a - (3 : Int32) = nI (a - 3) := pk_sub h
theorem ldi3 {a : Nat} (h : a < 2 ^ 31) : nI a / (3 : Int32) = nI (a / 3) := pk_div h (by decide) (by decide)
theorem leq4 {a : Nat} (h : a < 2 ^ 31) : (nI a = 4) = (a = 4) := xeq h (by decide)
theorem lle4 {a : Nat} (h : a < 2 ^ 31) : (nI a ≤ 4) = (a ≤ 4) := xle h (by decide)
theorem lge4 {a : Nat} (h : a < 2 ^ 31) : (4 ≤ nI a) = (4 ≤ a) := xle (by decide) h
theorem llt4 {a : Nat} (h : a < 2 ^ 31) : (nI a < 4) = (a < 4) := xlt h (by decide)
theorem lgt4 {a : Nat} (h : a < 2 ^ 31) : (4 < nI a) = (4 < a) := xlt (by decide) h
theorem lmu4 {a : Nat} : (4 : Int32) * nI a = nI (4 * a) := pk_mul 4 a
theorem lmv4 {a : Nat} : nI a * (4 : Int32) = nI (a * 4) := pk_mul a 4
theorem lad4 {a : Nat} : nI a + (4 : Int32) = nI (a + 4) := nI_add a 4
theorem lsu4 {a : Nat} (h : 4 ≤ a) : nI a - (4 : Int32) = nI (a - 4) := pk_sub h
theorem ldi4 {a : Nat} (h : a < 2 ^ 31) : nI a / (4 : Int32) = nI (a / 4) := pk_div h (by decide) (by decide)
theorem leq5 {a : Nat} (h : a < 2 ^ 31) : (nI a = 5) = (a = 5) := xeq h (by decide)
theorem lle5 {a : Nat} (h : a < 2 ^ 31) : (nI a ≤ 5) = (a ≤ 5) := xle h (by decide)
theorem lge5 {a : Nat} (h : a < 2 ^ 31) : (5 ≤ nI a) = (5 ≤ a) := xle (by decide) h
theorem llt5 {a : Nat} (h : a < 2 ^ 31) : (nI a < 5) = (a < 5) := xlt h (by decide)
theorem lgt5 {a : Nat} (h : a < 2 ^ 31) : (5 < nI a) = (5 < a) := xlt (by decide) h
theorem lmu5 {a : Nat} : (5 : Int32) * nI a = nI (5 * a) := pk_mul 5 a
theorem lmv5 {a : Nat} : nI a * (5 : Int32) = nI (a * 5) := pk_mul a 5
theorem lad5 {a : Nat} : nI a + (5 : Int32) = nI (a + 5) := nI_add a 5
theorem lsu5 {a : Nat} (h : 5 ≤ a) : nI a - (5 : Int32) = nI (a - 5) := pk_sub h
theorem ldi5 {a : Nat} (h : a < 2 ^ 31) : nI a / (5 : Int32) = nI (a / 5) := pk_div h (by decide) (by decide)
theorem leq6 {a : Nat} (h : a < 2 ^ 31) : (nI a = 6) = (a = 6) := xeq h (by decide)
theorem lle6 {a : Nat} (h : a < 2 ^ 31) : (nI a ≤ 6) = (a ≤ 6) := xle h (by decide)
theorem lge6 {a : Nat} (h : a < 2 ^ 31) : (6 ≤ nI a) = (6 ≤ a) := xle (by decide) h
theorem llt6 {a : Nat} (h : a < 2 ^ 31) : (nI a < 6) = (a < 6) := xlt h (by decide)
theorem lgt6 {a : Nat} (h : a < 2 ^ 31) : (6 < nI a) = (6 < a) := xlt (by decide) h
theorem lmu6 {a : Nat} : (6 : Int32) * nI a = nI (6 * a) := pk_mul 6 a
theorem lmv6 {a : Nat} : nI a * (6 : Int32) = nI (a * 6) := pk_mul a 6
theorem lad6 {a : Nat} : nI a + (6 : Int32) = nI (a + 6) := nI_add a 6
theorem lsu6 {a : Nat} (h : 6 ≤ a) : nI a - (6 : Int32) = nI (a - 6) := pk_sub h
theorem ldi6 {a : Nat} (h : a < 2 ^ 31) : nI a / (6 : Int32) = nI (a / 6) := pk_div h (by decide) (by decide)
theorem leq8 {a : Nat} (h : a < 2 ^ 31) : (nI a = 8) = (a = 8) := xeq h (by decide)
theorem lle8 {a : Nat} (h : a < 2 ^ 31) : (nI a ≤ 8) = (a ≤ 8) := xle h (by decide)
theorem lge8 {a : Nat} (h : a < 2 ^ 31) : (8 ≤ nI a) = (8 ≤ a) := xle (by decide) h
theorem llt8 {a : Nat} (h : a < 2 ^ 31) : (nI a < 8) = (a < 8) := xlt h (by decide)
theorem lgt8 {a : Nat} (h : a < 2 ^ 31) : (8 < nI a) = (8 < a) := xlt (by decide) h
theorem lmu8 {a : Nat} : (8 : Int32) * nI a = nI (8 * a) := pk_mul 8 a
theorem lmv8 {a : Nat} : nI a * (8 : Int32) = nI (a * 8) := pk_mul a 8
theorem lad8 {a : Nat} : nI a + (8 : Int32) = nI (a + 8) := nI_add a 8
theorem lsu8 {a : Nat} (h : 8 ≤ a) : nI a - (8 : Int32) = nI (a - 8) := pk_sub h
theorem ldi8 {a : Nat} (h : a < 2 ^ 31) : nI a / (8 : Int32) = nI (a / 8) := pk_div h (by decide) (by decide)
theorem leq9 {a : Nat} (h : a < 2 ^ 31) : (nI a = 9) = (a = 9) := xeq h (by decide)
theorem lle9 {a : Nat} (h : a < 2 ^ 31) : (nI a ≤ 9) = (a ≤ 9) := xle h (by decide)
theorem lge9 {a : Nat} (h : a < 2 ^ 31) : (9 ≤ nI a) = (9 ≤ a) := xle (by decide) h
theorem llt9 {a : Nat} (h : a < 2 ^ 31) : (nI a < 9) = (a < 9) := xlt h (by decide)
theorem lgt9 {a : Nat} (h : a < 2 ^ 31) : (9 < nI a) = (9 < a) := xlt (by decide) h
theorem lmu9 {a : Nat} : (9 : Int32) * nI a = nI (9 * a) := pk_mul 9 a
theorem lmv9 {a : Nat} : nI a * (9 : Int32) = nI (a * 9) := pk_mul a 9
theorem lad9 {a : Nat} : nI a + (9 : Int32) = nI (a + 9) := nI_add a 9
theorem lsu9 {a : Nat} (h : 9 ≤ a) : nI a - (9 : Int32) = nI (a - 9) := pk_sub h
theorem ldi9 {a : Nat} (h : a < 2 ^ 31) : nI a / (9 : Int32) = nI (a / 9) := pk_div h (by decide) (by decide)
theorem leq10 {a : Nat} (h : a < 2 ^ 31) : (nI a = 10) = (a = 10) := xeq h (by decide)
theorem lle10 {a : Nat} (h : a < 2 ^ 31) : (nI a ≤ 10) = (a ≤ 10) := xle h (by decide)
theorem lge10 {a : Nat} (h : a < 2 ^ 31) : (10 ≤ nI a) = (10 ≤ a) := xle (by decide) h
theorem llt10 {a : Nat} (h : a < 2 ^ 31) : (nI a < 10) = (a < 10) := xlt h (by decide)
theorem lgt10 {a : Nat} (h : a < 2 ^ 31) : (10 < nI a) = (10 < a) := xlt (by decide) h
theorem lmu10 {a : Nat} : (10 : Int32) * nI a = nI (10 * a) := pk_mul 10 a
theorem lmv10 {a : Nat} : nI a * (10 : Int32) = nI (a * 10) := pk_mul a 10
theorem lad10 {a : Nat} : nI a + (10 : Int32) = nI (a + 10) := nI_add a 10
theorem lsu10 {a : Nat} (h : 10 ≤ a) : nI a - (10 : Int32) = nI (a - 10) := pk_sub h
theorem ldi10 {a : Nat} (h : a < 2 ^ 31) : nI a / (10 : Int32) = nI (a / 10) := pk_div h (by decide) (by decide)
theorem leq12 {a : Nat} (h : a < 2 ^ 31) : (nI a = 12) = (a = 12) := xeq h (by decide)
theorem lle12 {a : Nat} (h : a < 2 ^ 31) : (nI a ≤ 12) = (a ≤ 12) := xle h (by decide)
theorem lge12 {a : Nat} (h : a < 2 ^ 31) : (12 ≤ nI a) = (12 ≤ a) := xle (by decide) h
theorem llt12 {a : Nat} (h : a < 2 ^ 31) : (nI a < 12) = (a < 12) := xlt h (by decide)
theorem lgt12 {a : Nat} (h : a < 2 ^ 31) : (12 < nI a) = (12 < a) := xlt (by decide) h
theorem lmu12 {a : Nat} : (12 : Int32) * nI a = nI (12 * a) := pk_mul 12 a
theorem lmv12 {a : Nat} : nI a * (12 : Int32) = nI (a * 12) := pk_mul a 12
theorem lad12 {a : Nat} : nI a + (12 : Int32) = nI (a + 12) := nI_add a 12
theorem lsu12 {a : Nat} (h : 12 ≤ a) : nI a - (12 : Int32) = nI (a - 12) := pk_sub h
theorem ldi12 {a : Nat} (h : a < 2 ^ 31) : nI a / (12 : Int32) = nI (a / 12) := pk_div h (by decide) (by decide)
theorem leq20 {a : Nat} (h : a < 2 ^ 31) : (nI a = 20) = (a = 20) := xeq h (by decide)
theorem lle20 {a : Nat} (h : a < 2 ^ 31) : (nI a ≤ 20) = (a ≤ 20) := xle h (by decide)
theorem lge20 {a : Nat} (h : a < 2 ^ 31) : (20 ≤ nI a) = (20 ≤ a) := xle (by decide) h
theorem llt20 {a : Nat} (h : a < 2 ^ 31) : (nI a < 20) = (a < 20) := xlt h (by decide)
theorem lgt20 {a : Nat} (h : a < 2 ^ 31) : (20 < nI a) = (20 < a) := xlt (by decide) h
theorem lmu20 {a : Nat} : (20 : Int32) * nI a = nI (20 * a) := pk_mul 20 a
theorem lmv20 {a : Nat} : nI a * (20 : Int32) = nI (a * 20) := pk_mul a 20
theorem lad20 {a : Nat} : nI a + (20 : Int32) = nI (a + 20) := nI_add a 20
theorem lsu20 {a : Nat} (h : 20 ≤ a) : nI a - (20 : Int32) = nI (a - 20) := pk_sub h
theorem ldi20 {a : Nat} (h : a < 2 ^ 31) : nI a / (20 : Int32) = nI (a / 20) := pk_div h (by decide) (by decide)
theorem leq25 {a : Nat} (h : a < 2 ^ 31) : (nI a = 25) = (a = 25) := xeq h (by decide)
theorem lle25 {a : Nat} (h : a < 2 ^ 31) : (nI a ≤ 25) = (a ≤ 25) := xle h (by decide)
theorem lge25 {a : Nat} (h : a < 2 ^ 31) : (25 ≤ nI a) = (25 ≤ a) := xle (by decide) h
theorem llt25 {a : Nat} (h : a < 2 ^ 31) : (nI a < 25) = (a < 25) := xlt h (by decide)
theorem lgt25 {a : Nat} (h : a < 2 ^ 31) : (25 < nI a) = (25 < a) := xlt (by decide) h
theorem lmu25 {a : Nat} : (25 : Int32) * nI a = nI (25 * a) := pk_mul 25 a
theorem lmv25 {a : Nat} : nI a * (25 : Int32) = nI (a * 25) := pk_mul a 25
theorem lad25 {a : Nat} : nI a + (25 : Int32) = nI (a + 25) := nI_add a 25
theorem lsu25 {a : Nat} (h : 25 ≤ a) : nI a - (25 : Int32) = nI (a - 25) := pk_sub h
theorem ldi25 {a : Nat} (h : a < 2 ^ 31) : nI a / (25 : Int32) = nI (a / 25) := pk_div h (by decide) (by decide)
theorem leq30 {a : Nat} (h : a < 2 ^ 31) : (nI a = 30) = (a = 30) := xeq h (by decide)
theorem lle30 {a : Nat} (h : a < 2 ^ 31) : (nI a ≤ 30) = (a ≤ 30) := xle h (by decide)
theorem lge30 {a : Nat} (h : a < 2 ^ 31) : (30 ≤ nI a) = (30 ≤ a) := xle (by decide) h
theorem llt30 {a : Nat} (h : a < 2 ^ 31) : (nI a < 30) = (a < 30) := xlt h (by decide)
theorem lgt30 {a : Nat} (h : a < 2 ^ 31) : (30 < nI a) = (30 < a) := xlt (by decide) h
theorem lmu30 {a : Nat} : (30 : Int32) * nI a = nI (30 * a) := pk_mul 30 a
theorem lmv30 {a : Nat} : nI a * (30 : Int32) = nI (a * 30) := pk_mul a 30
theorem lad30 {a : Nat} : nI a + (30 : Int32) = nI (a + 30) := nI_add a 30
theorem lsu30 {a : Nat} (h : 30 ≤ a) : nI a - (30 : Int32) = nI (a - 30) := pk_sub h
theorem ldi30 {a : Nat} (h : a < 2 ^ 31) : nI a / (30 : Int32) = nI (a / 30) := pk_div h (by decide) (by decide)
theorem leq48 {a : Nat} (h : a < 2 ^ 31) : (nI a = 48) = (a = 48) := xeq h (by decide)
theorem lle48 {a : Nat} (h : a < 2 ^ 31) : (nI a ≤ 48) = (a ≤ 48) := xle h (by decide)
theorem lge48 {a : Nat} (h : a < 2 ^ 31) : (48 ≤ nI a) = (48 ≤ a) := xle (by decide) h
theorem llt48 {a : Nat} (h : a < 2 ^ 31) : (nI a < 48) = (a < 48) := xlt h (by decide)
theorem lgt48 {a : Nat} (h : a < 2 ^ 31) : (48 < nI a) = (48 < a) := xlt (by decide) h
theorem lmu48 {a : Nat} : (48 : Int32) * nI a = nI (48 * a) := pk_mul 48 a
theorem lmv48 {a : Nat} : nI a * (48 : Int32) = nI (a * 48) := pk_mul a 48
theorem lad48 {a : Nat} : nI a + (48 : Int32) = nI (a + 48) := nI_add a 48
theorem lsu48 {a : Nat} (h : 48 ≤ a) : nI a - (48 : Int32) = nI (a - 48) := pk_sub h
theorem ldi48 {a : Nat} (h : a < 2 ^ 31) : nI a / (48 : Int32) = nI (a / 48) := pk_div h (by decide) (by decide)
theorem leq50 {a : Nat} (h : a < 2 ^ 31) : (nI a = 50) = (a = 50) := xeq h (by decide)
theorem lle50 {a : Nat} (h : a < 2 ^ 31) : (nI a ≤ 50) = (a ≤ 50) := xle h (by decide)
theorem lge50 {a : Nat} (h : a < 2 ^ 31) : (50 ≤ nI a) = (50 ≤ a) := xle (by decide) h
theorem llt50 {a : Nat} (h : a < 2 ^ 31) : (nI a < 50) = (a < 50) := xlt h (by decide)
theorem lgt50 {a : Nat} (h : a < 2 ^ 31) : (50 < nI a) = (50 < a) := xlt (by decide) h
theorem lmu50 {a : Nat} : (50 : Int32) * nI a = nI (50 * a) := pk_mul 50 a
theorem lmv50 {a : Nat} : nI a * (50 : Int32) = nI (a * 50) := pk_mul a 50
theorem lad50 {a : Nat} : nI a + (50 : Int32) = nI (a + 50) := nI_add a 50
theorem lsu50 {a : Nat} (h : 50 ≤ a) : nI a - (50 : Int32) = nI (a - 50) := pk_sub h
theorem ldi50 {a : Nat} (h : a < 2 ^ 31) : nI a / (50 : Int32) = nI (a / 50) := pk_div h (by decide) (by decide)
theorem leq99 {a : Nat} (h : a < 2 ^ 31) : (nI a = 99) = (a = 99) := xeq h (by decide)
theorem lle99 {a : Nat} (h : a < 2 ^ 31) : (nI a ≤ 99) = (a ≤ 99) := xle h (by decide)
theorem lge99 {a : Nat} (h : a < 2 ^ 31) : (99 ≤ nI a) = (99 ≤ a) := xle (by decide) h
theorem llt99 {a : Nat} (h : a < 2 ^ 31) : (nI a < 99) = (a < 99) := xlt h (by decide)
theorem lgt99 {a : Nat} (h : a < 2 ^ 31) : (99 < nI a) = (99 < a) := xlt (by decide) h
theorem lmu99 {a : Nat} : (99 : Int32) * nI a = nI (99 * a) := pk_mul 99 a
theorem lmv99 {a : Nat} : nI a * (99 : Int32) = nI (a * 99) := pk_mul a 99
theorem lad99 {a : Nat} : nI a + (99 : Int32) = nI (a + 99) := nI_add a 99
theorem lsu99 {a : Nat} (h : 99 ≤ a) : nI a - (99 : Int32) = nI (a - 99) := pk_sub h
theorem ldi99 {a : Nat} (h : a < 2 ^ 31) : nI a / (99 : Int32) = nI (a / 99) := pk_div h (by decide) (by decide)
theorem leq100 {a : Nat} (h : a < 2 ^ 31) : (nI a = 100) = (a = 100) := xeq h (by decide)
theorem lle100 {a : Nat} (h : a < 2 ^ 31) : (nI a ≤ 100) = (a ≤ 100) := xle h (by decide)
theorem lge100 {a : Nat} (h : a < 2 ^ 31) : (100 ≤ nI a) = (100 ≤ a) := xle (by decide) h
theorem llt100 {a : Nat} (h : a < 2 ^ 31) : (nI a < 100) = (a < 100) := xlt h (by decide)
theorem lgt100 {a : Nat} (h : a < 2 ^ 31) : (100 < nI a) = (100 < a) := xlt (by decide) h
theorem lmu100 {a : Nat} : (100 : Int32) * nI a = nI (100 * a) := pk_mul 100 a
theorem lmv100 {a : Nat} : nI a * (100 : Int32) = nI (a * 100) := pk_mul a 100
theorem lad100 {a : Nat} : nI a + (100 : Int32) = nI (a + 100) := nI_add a 100
theorem lsu100 {a : Nat} (h : 100 ≤ a) : nI a - (100 : Int32) = nI (a - 100) := pk_sub h
theorem ldi100 {a : Nat} (h : a < 2 ^ 31) : nI a / (100 : Int32) = nI (a / 100) := pk_div h (by decide) (by decide)
theorem leq2000 {a : Nat} (h : a < 2 ^ 31) : (nI a = 2000) = (a = 2000) := xeq h (by decide)
theorem lle2000 {a : Nat} (h : a < 2 ^ 31) : (nI a ≤ 2000) = (a ≤ 2000) := xle h (by decide)
theorem lge2000 {a : Nat} (h : a < 2 ^ 31) : (2000 ≤ nI a) = (2000 ≤ a) := xle (by decide) h
theorem llt2000 {a : Nat} (h : a < 2 ^ 31) : (nI a < 2000) = (a < 2000) := xlt h (by decide)
theorem lgt2000 {a : Nat} (h : a < 2 ^ 31) : (2000 < nI a) = (2000 < a) := xlt (by decide) h
theorem lmu2000 {a : Nat} : (2000 : Int32) * nI a = nI (2000 * a) := pk_mul 2000 a
theorem lmv2000 {a : Nat} : nI a * (2000 : Int32) = nI (a * 2000) := pk_mul a 2000
theorem lad2000 {a : Nat} : nI a + (2000 : Int32) = nI (a + 2000) := nI_add a 2000
theorem lsu2000 {a : Nat} (h : 2000 ≤ a) : nI a - (2000 : Int32) = nI (a - 2000) := pk_sub h
theorem ldi2000 {a : Nat} (h : a < 2 ^ 31) : nI a / (2000 : Int32) = nI (a / 2000) := pk_div h (by decide) (by decide)
theorem lad0 {a : Nat} : nI a + (0 : Int32) = nI a := Int32.add_zero _
theorem nIm1 {a : Nat} (h : 1 ≤ a) : nI a - 1 = nI (a - 1) := pk_sub h
def MI (σ : xS) : Prop :=
  σ 0 0 ≤ 2000 ∧ σ 1 0 ≤ 50 ∧ σ 2 0 ≤ 20 ∧ σ 3 0 ≤ 10 ∧
  (∀ w, w < 10 → σ 4 w ≤ 12 ∧ σ 5 w ≤ 2 ∧ σ 6 w ≤ 30) ∧ (∀ w, w < σ 3 0 → 1 ≤ σ 4 w) ∧
  (∀ a, a < 120 → σ 7 a ≤ 1 ∧ σ 8 a ≤ 6) ∧
  (∀ c, c < 720 → σ 9 c ≤ 3 ∧ σ 10 c ≤ 20 ∧ σ 11 c ≤ 2000 ∧ σ 12 c ≤ 200 ∧ σ 13 c ≤ 1 ∧ σ 14 c ≤ 1 ∧ σ 15 c ≤ 1) ∧
  σ 16 0 ≤ 10 ∧ (∀ p, p < 10 → σ 17 p ≤ 8) ∧ (∀ p, p < σ 16 0 → 1 ≤ σ 17 p) ∧ (∀ d, d < 80 → σ 18 d ≤ 100) ∧ (∀ p i, p < σ 16 0 → i < σ 17 p → 1 ≤ σ 18 (8 * p + i)) ∧
  (∀ g, g < 10 → σ 19 g ≤ 3) ∧ σ 20 0 ≤ 30 ∧ (∀ q, q < 30 → σ 21 q ≤ 2000) ∧ (∀ c, c < 48 → σ 22 c ≤ σ 20 0 ∧ σ 23 c ≤ 10 ∧ σ 24 c ≤ 1) ∧
  (∀ w s, w < 10 → s < 12 → ¬ (w < σ 3 0 ∧ s < σ 4 w) → σ 8 (12 * w + s) = 0)
def need (p : Nat) : Nat := if p = 0 then 4 else if p = 2 then 2 else 3
def shr (p : Nat) : Nat := if p = 0 then 2 else if p = 1 then 3 else if p = 2 then 0 else 5
def keyG (g : Nat) : Nat := if g = 0 then 20 else if g = 1 then 30 else 10
section
variable {κ : Nat → Nat} {R : xR → xH → Prop} {ad : Nat → Nat} {m : Nat} {ah0 ah : xH} {σ : xS} {th : Nat}
/-! signs of the walk that simp decides -/
theorem i10 : ((1 : Int32) = 0) = False := by decide
theorem i20 : ((2 : Int32) = 0) = False := by decide
theorem i30 : ((3 : Int32) = 0) = False := by decide
theorem n00 : (0 = 0) = True := eq_true rfl
theorem n10 : (1 = 0) = False := by decide
theorem n20 : (2 = 0) = False := by decide
theorem n30 : (3 = 0) = False := by decide
theorem k00 : (nI 0 = 0) = True := by decide
theorem k10 : (nI 1 = 0) = False := by decide
theorem k20 : (nI 2 = 0) = False := by decide
theorem k30 : (nI 3 = 0) = False := by decide
theorem i00 : ((0 : Int32) = 0) = True := by decide
end

