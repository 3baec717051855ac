/-! the model's small methods over its state -/
abbrev xin (w : Int32) (n : Nat) : Prop := 0 ≤ w ∧ w < nI n
theorem xin_of {w : Int32} {n : Nat} (hn : n < 2 ^ 31) (h : xin w n) : ∃ j, j < n ∧ w = nI j := by
  rcases xint w n hn with h1 | h1
  · exact h1
  · exact absurd h h1
theorem xin_j {j n : Nat} (hj : j < 2 ^ 31) (hn : n < 2 ^ 31) : xin (nI j) n ↔ j < n := by
  unfold xin
  rw [xlt hj hn]
  exact ⟨fun h => h.2, fun h => ⟨nI_pos' hj, h⟩⟩
theorem xin_pred {w : Int32} {n : Nat} (hn : n < 2 ^ 31) : (0 ≤ w ∧ w ≤ nI n - 1) ↔ xin w n := by
  have e : (nI n - 1).toInt = (n : Int) - 1 := by
    have h1 : (nI n).toInt = (n : Int) := nI_toInt hn
    have h2 : (1 : Int32).toInt = 1 := rfl
    rw [Int32.toInt_sub, h1, h2]
    exact Int.bmod_eq_of_le (by omega) (by omega)
  have e0 : (nI n).toInt = (n : Int) := nI_toInt hn
  unfold xin
  rw [Int32.le_iff_toInt_le, Int32.le_iff_toInt_le, Int32.lt_iff_toInt_lt, e, e0]
  omega
theorem xin_not {w : Int32} {n : Nat} (h0 : ¬ w < 0) (h1 : ¬ nI n ≤ w) : xin w n := ⟨Int32.not_lt.mp h0, Int32.not_le.mp h1⟩
theorem xb_congr {p q : Prop} [Decidable p] [Decidable q] (h : p ↔ q) : xb p = xb q := by
  unfold xb
  by_cases hp : p
  · rw [if_pos hp, if_pos (h.mp hp)]
  · rw [if_neg hp, if_neg (fun hq => hp (h.mpr hq))]
theorem nI_cl {n : Nat} (h : n < 2 ^ 31) : (nI n).toNatClampNeg = n := nI_clamp h
/-- what the model's state keeps -/
def MI (σ : xS) : Prop :=
  σ 0 0 ≤ 2000 ∧ σ 1 0 ≤ 50 ∧ σ 2 0 ≤ 20 ∧ σ 3 0 ≤ 10 ∧
  (∀ w, w < 10 → σ 4 w ≤ 12 ∧ σ 5 w ≤ 2 ∧ σ 6 w ≤ 30) ∧ (∀ w, w < σ 3 0 → 1 ≤ σ 4 w) ∧
  (∀ a, a < 120 → σ 7 a ≤ 1 ∧ σ 8 a ≤ 6) ∧
  (∀ c, c < 720 → σ 9 c ≤ 3 ∧ σ 10 c ≤ 20 ∧ σ 11 c ≤ 2000 ∧ σ 12 c ≤ 200 ∧ σ 13 c ≤ 1 ∧ σ 14 c ≤ 1 ∧ σ 15 c ≤ 1) ∧
  σ 16 0 ≤ 10 ∧ (∀ p, p < 10 → σ 17 p ≤ 8) ∧ (∀ p, p < σ 16 0 → 1 ≤ σ 17 p) ∧ (∀ d, d < 80 → σ 18 d ≤ 100) ∧ (∀ p i, p < σ 16 0 → i < σ 17 p → 1 ≤ σ 18 (8 * p + i)) ∧
  (∀ g, g < 10 → σ 19 g ≤ 3) ∧ σ 20 0 ≤ 30 ∧ (∀ q, q < 30 → σ 21 q ≤ 2000) ∧ (∀ c, c < 48 → σ 22 c ≤ σ 20 0 ∧ σ 23 c ≤ 10 ∧ σ 24 c ≤ 1) ∧
  (∀ w s, w < 10 → s < 12 → ¬ (w < σ 3 0 ∧ s < σ 4 w) → σ 8 (12 * w + s) = 0)
def need (p : Nat) : Nat := if p = 0 then 4 else if p = 2 then 2 else 3
def shr (p : Nat) : Nat := if p = 0 then 2 else if p = 1 then 3 else if p = 2 then 0 else 5
def keyG (g : Nat) : Nat := if g = 0 then 20 else if g = 1 then 30 else 10
section
variable {κ : Nat → Nat} {R : xR → xH → Prop} {ad : Nat → Nat} {m : Nat} {ah0 ah : xH} {σ : xS}
theorem sp_needs {p : Nat} (hp : p < 4) : xm κ 99 [.int (nI p)] ah R ↔ R (.inl (some (.int (nI (need p))))) ah := by
  simp only [en99, e99_0, e99_1, e99_4, e99_5, e99_8, e99_9, e99_10, e99_13, e99_14, e99_17, e99_18, xKv, xK0, xKx, xKHv, xKH0, xk_none, xk_i, xk_f, xk_l, xk_r, xk_n, xc_i, xc_f, xc_l, xc_d, xc_r, xc_n, xo_some, List.map_cons, List.map_nil, List.sum_cons, List.sum_nil]
  have : p = 0 ∨ p = 1 ∨ p = 2 ∨ p = 3 := by omega
  rcases this with rfl | rfl | rfl | rfl <;> simp [need, nI]
theorem sp_shrinks {p : Nat} (hp : p < 4) : xm κ 100 [.int (nI p)] ah R ↔ R (.inl (some (.int (nI (shr p))))) ah := by
  simp only [en100, e100_0, e100_1, e100_4, e100_5, e100_8, e100_9, e100_10, e100_13, e100_14, e100_17, e100_18, e100_19, e100_22, e100_23, e100_26, e100_27, xKv, xK0, xKx, xKHv, xKH0, xk_none, xk_i, xk_f, xk_l, xk_r, xk_n, xc_i, xc_f, xc_l, xc_d, xc_r, xc_n, xo_some, List.map_cons, List.map_nil, List.sum_cons, List.sum_nil]
  have : p = 0 ∨ p = 1 ∨ p = 2 ∨ p = 3 := by omega
  rcases this with rfl | rfl | rfl | rfl <;> simp [shr, nI]
theorem sp_keysOf {p : Nat} (hp : p < 3) : xm κ 102 [.int (nI p)] ah R ↔ R (.inl (some (.int (nI (keyG p))))) ah := by
  simp only [en102, e102_0, e102_1, e102_4, e102_6, e102_9, e102_10, e102_11, e102_14, e102_16, e102_19, e102_21, xKv, xK0, xKx, xKHv, xKH0, xk_none, xk_i, xk_f, xk_l, xk_r, xk_n, xc_i, xc_f, xc_l, xc_d, xc_r, xc_n, xo_some, List.map_cons, List.map_nil, List.sum_cons, List.sum_nil]
  have : p = 0 ∨ p = 1 ∨ p = 2 := by omega
  rcases this with rfl | rfl | rfl <;> simp [keyG, nI]
theorem sp_goes {v : Value} {x : Int32} (h : xfld ah m 11 26 = some v) : xm κ 93 [.ref m, .int x] ah R ↔ R (.inl (some (.int (xb (x = 0))))) (xput ah m 26 (.int x)) := by
  simp only [en93, e93_0, e93_0n, e93_1, e93_2, e93_5, e93_6, e93_9, e93_10, e93_13, e93_14, xKv, xK0, xKx, xKHv, xKH0, xk_none, xk_i, xk_f, xk_l, xk_r, xk_n, xc_i, xc_f, xc_l, xc_d, xc_r, xc_n, xo_some, List.map_cons, List.map_nil, List.sum_cons, List.sum_nil, h, Option.isSome_some, true_and, xnz0, xnz1]
  by_cases hx : x = 0 <;> simp [hx, xb]
theorem sp_thrown {x : Int32} (h : xfld ah m 11 26 = some (.int x)) : xm κ 92 [.ref m] ah R ↔ R (.inl (some (.int x))) ah := by
  simp only [en92, e92_0, e92_0n, e92_1, e92_4, xKv, xK0, xKx, xKHv, xKH0, xk_none, xk_i, xk_f, xk_l, xk_r, xk_n, xc_i, xc_f, xc_l, xc_d, xc_r, xc_n, xo_some, List.map_cons, List.map_nil, List.sum_cons, List.sum_nil, h]
theorem sp_isWall (h : MR ad m ah0 ah σ) (hI : MI σ) {w : Int32} : xm κ 95 [.ref m, .int w] ah R ↔ R (.inl (some (.int (xb (xin w (σ 3 0)))))) ah := by
  simp only [en95, e95_0, e95_1, e95_2, e95_2n, e95_3, e95_6, e95_7, e95_8, e95_11, xKv, xK0, xKx, xKHv, xKH0, xk_none, xk_i, xk_f, xk_l, xk_r, xk_n, xc_i, xc_f, xc_l, xc_d, xc_r, xc_n, xo_some, List.map_cons, List.map_nil, List.sum_cons, List.sum_nil, h.s 3, sp_isBetween, xnzb, true_and]
  rw [xb_congr (xin_pred (w := w) (n := σ 3 0) (by have := hI.2.2.2.1; omega))]
  simp
end
