/-! Long.bitCount -/
theorem and_split (p q k : Nat) : p &&& q = 2 ^ k * ((p / 2 ^ k) &&& (q / 2 ^ k)) + ((p % 2 ^ k) &&& (q % 2 ^ k)) := by
  rw [← Nat.and_div_two_pow, ← Nat.and_mod_two_pow]
  exact (Nat.div_add_mod _ _).symm
def mby (c : Nat) : Nat → Nat
  | 0 => 0
  | k + 1 => 256 * mby c k + c
def st1 (m n : Nat) : Nat := n - ((n / 2) &&& m)
def st2 (m n : Nat) : Nat := (n &&& m) + ((n / 4) &&& m)
def st3 (m n : Nat) : Nat := (n + n / 16) &&& m
def stT (k n : Nat) : Nat := st3 (mby 15 k) (st2 (mby 51 k) (st1 (mby 85 k) n))
def tby (b : Nat) : Nat := b % 2 + b / 2 % 2 + b / 4 % 2 + b / 8 % 2 + b / 16 % 2 + b / 32 % 2 + b / 64 % 2 + b / 128 % 2
theorem by1 : ∀ (b : Fin 256) (e : Fin 2), ((b.1 / 2 + 128 * e.1) &&& 85) = (b.1 / 2 &&& 85) ∧ (b.1 / 2 &&& 85) ≤ b.1 := by decide +kernel
theorem by2 : ∀ (b : Fin 256) (e : Fin 4), ((b.1 / 4 + 64 * e.1) &&& 51) = (b.1 / 4 &&& 51) ∧ (b.1 &&& 51) + (b.1 / 4 &&& 51) < 256 := by decide +kernel
theorem by3 : ∀ (b : Fin 103) (e : Fin 7), ((b.1 + b.1 / 16 + 16 * e.1) &&& 15) = ((b.1 + b.1 / 16) &&& 15) := by decide +kernel
theorem by4 : ∀ b : Fin 256, st3 15 (st2 51 (st1 85 b.1)) = tby b.1 ∧ st2 51 (st1 85 b.1) ≤ 68 ∧ st2 51 (st1 85 b.1) % 16 ≤ 4 := by decide +kernel
theorem st1_s {m y b : Nat} (hb : b < 256) : st1 (256 * m + 85) (256 * y + b) = 256 * st1 m y + st1 85 b := by
  have e := and_split ((256 * y + b) / 2) (256 * m + 85) 8
  have p : (2 : Nat) ^ 8 = 256 := by decide
  rw [p] at e
  have e1 : (256 * y + b) / 2 / 256 = y / 2 := by omega
  have e2 : (256 * y + b) / 2 % 256 = b / 2 + 128 * (y % 2) := by omega
  have e3 : (256 * m + 85) / 256 = m := by omega
  have e4 : (256 * m + 85) % 256 = 85 := by omega
  obtain ⟨q1, q2⟩ := by1 ⟨b, hb⟩ ⟨y % 2, by omega⟩
  dsimp only at q1 q2
  rw [e1, e2, e3, e4, q1] at e
  have hle : (y / 2 &&& m) ≤ y / 2 := Nat.and_le_left
  unfold st1
  rw [e]
  omega
theorem st2_s {m y b : Nat} (hb : b < 256) : st2 (256 * m + 51) (256 * y + b) = 256 * st2 m y + st2 51 b := by
  have e := and_split ((256 * y + b) / 4) (256 * m + 51) 8
  have f := and_split (256 * y + b) (256 * m + 51) 8
  have p : (2 : Nat) ^ 8 = 256 := by decide
  rw [p] at e f
  have e1 : (256 * y + b) / 4 / 256 = y / 4 := by omega
  have e2 : (256 * y + b) / 4 % 256 = b / 4 + 64 * (y % 4) := by omega
  have e3 : (256 * m + 51) / 256 = m := by omega
  have e4 : (256 * m + 51) % 256 = 51 := by omega
  have f1 : (256 * y + b) / 256 = y := by omega
  have f2 : (256 * y + b) % 256 = b := by omega
  obtain ⟨q1, q2⟩ := by2 ⟨b, hb⟩ ⟨y % 4, by omega⟩
  dsimp only at q1 q2
  rw [e1, e2, e3, e4, q1] at e
  rw [f1, f2, e3, e4] at f
  unfold st2
  rw [e, f]
  omega
theorem st3_s {m y b : Nat} (hb : b ≤ 68) (hy : y % 16 ≤ 4) : st3 (256 * m + 15) (256 * y + b) = 256 * st3 m y + st3 15 b := by
  have e := and_split (256 * y + b + (256 * y + b) / 16) (256 * m + 15) 8
  have p : (2 : Nat) ^ 8 = 256 := by decide
  rw [p] at e
  have e1 : (256 * y + b + (256 * y + b) / 16) / 256 = y + y / 16 := by omega
  have e2 : (256 * y + b + (256 * y + b) / 16) % 256 = b + b / 16 + 16 * (y % 16) := by omega
  have e3 : (256 * m + 15) / 256 = m := by omega
  have e4 : (256 * m + 15) % 256 = 15 := by omega
  have q1 := by3 ⟨b, by omega⟩ ⟨y % 16, by omega⟩
  dsimp only at q1
  rw [e1, e2, e3, e4, q1] at e
  exact e
theorem stT_s {k y b : Nat} (hb : b < 256) (hy : st2 (mby 51 k) (st1 (mby 85 k) y) % 16 ≤ 4) : stT (k + 1) (256 * y + b) = 256 * stT k y + tby b := by
  obtain ⟨q1, q2, q3⟩ := by4 ⟨b, hb⟩
  dsimp only at q1 q2 q3
  have hb1 : st1 85 b < 256 := by unfold st1; omega
  unfold stT
  show st3 (256 * mby 15 k + 15) (st2 (256 * mby 51 k + 51) (st1 (256 * mby 85 k + 85) (256 * y + b))) = _
  rw [st1_s hb, st2_s hb1, st3_s q2 hy, q1]
theorem stm {k n : Nat} (hn : n < 256 ^ k) : st2 (mby 51 k) (st1 (mby 85 k) n) % 16 ≤ 4 := by
  cases k with
  | zero =>
    have : n = 0 := by
      have : (256 : Nat) ^ 0 = 1 := by decide
      omega
    subst this
    decide
  | succ k =>
    obtain ⟨y, b, hb, rfl⟩ : ∃ y b, b < 256 ∧ n = 256 * y + b := ⟨n / 256, n % 256, Nat.mod_lt _ (by decide), (Nat.div_add_mod n 256).symm⟩
    obtain ⟨q1, q2, q3⟩ := by4 ⟨b, hb⟩
    dsimp only at q3
    have hb1 : st1 85 b < 256 := by unfold st1; omega
    show st2 (256 * mby 51 k + 51) (st1 (256 * mby 85 k + 85) (256 * y + b)) % 16 ≤ 4
    rw [st1_s hb, st2_s hb1]
    omega
def sby : Nat → Nat → Nat
  | 0, _ => 0
  | k + 1, n => tby (n % 256) + sby k (n / 256)
theorem pw256 (k : Nat) : (256 : Nat) ^ (k + 1) = 256 * 256 ^ k := by rw [Nat.pow_succ, Nat.mul_comm]
theorem stT_d (k n : Nat) (hn : n < 256 ^ (k + 1)) : stT (k + 1) n = 256 * stT k (n / 256) + tby (n % 256) := by
  have hd : n / 256 < 256 ^ k := by
    rw [pw256] at hn
    exact Nat.div_lt_of_lt_mul hn
  have := stT_s (k := k) (y := n / 256) (b := n % 256) (Nat.mod_lt _ (by decide)) (stm hd)
  rw [Nat.div_add_mod] at this
  exact this
theorem tby_le (b : Nat) : tby b ≤ 8 := by unfold tby; omega
theorem stT_8 (n : Nat) (hn : n < 256 ^ 8) : ∃ c0 c1 c2 c3 c4 c5 c6 c7 : Nat, c0 ≤ 8 ∧ c1 ≤ 8 ∧ c2 ≤ 8 ∧ c3 ≤ 8 ∧ c4 ≤ 8 ∧ c5 ≤ 8 ∧ c6 ≤ 8 ∧ c7 ≤ 8 ∧ stT 8 n = c0 + 256 * (c1 + 256 * (c2 + 256 * (c3 + 256 * (c4 + 256 * (c5 + 256 * (c6 + 256 * c7)))))) ∧ sby 8 n = c0 + (c1 + (c2 + (c3 + (c4 + (c5 + (c6 + c7)))))) := by
  have d : ∀ k m, m < 256 ^ (k + 1) → m / 256 < 256 ^ k := fun k m h => by
    rw [pw256] at h
    exact Nat.div_lt_of_lt_mul h
  have h1 := d 7 n hn
  have h2 := d 6 _ h1
  have h3 := d 5 _ h2
  have h4 := d 4 _ h3
  have h5 := d 3 _ h4
  have h6 := d 2 _ h5
  have h7 := d 1 _ h6
  have h8 := d 0 _ h7
  refine ⟨_, _, _, _, _, _, _, _, tby_le (n % 256), tby_le (n / 256 % 256), tby_le (n / 256 / 256 % 256), tby_le (n / 256 / 256 / 256 % 256), tby_le (n / 256 / 256 / 256 / 256 % 256), tby_le (n / 256 / 256 / 256 / 256 / 256 % 256), tby_le (n / 256 / 256 / 256 / 256 / 256 / 256 % 256), tby_le (n / 256 / 256 / 256 / 256 / 256 / 256 / 256 % 256), ?_, rfl⟩
  have z : stT 0 (n / 256 / 256 / 256 / 256 / 256 / 256 / 256 / 256) = 0 := by
    have : n / 256 / 256 / 256 / 256 / 256 / 256 / 256 / 256 = 0 := by
      have : (256 : Nat) ^ 0 = 1 := by decide
      omega
    rw [this]
    decide
  rw [stT_d 7 n hn, stT_d 6 _ h1, stT_d 5 _ h2, stT_d 4 _ h3, stT_d 3 _ h4, stT_d 2 _ h5, stT_d 1 _ h6, stT_d 0 _ h7, z]
  omega
theorem dv256 {a b : Nat} (h : a < 256) : (a + 256 * b) / 256 = b := by omega
theorem ad256 (a b c d : Nat) : a + 256 * b + (c + 256 * d) = (a + c) + 256 * (b + d) := by omega
theorem pop_end {c0 c1 c2 c3 c4 c5 c6 c7 v w z : Nat} (h0 : c0 ≤ 8) (h1 : c1 ≤ 8) (h2 : c2 ≤ 8) (h3 : c3 ≤ 8) (h4 : c4 ≤ 8) (h5 : c5 ≤ 8) (h6 : c6 ≤ 8) (h7 : c7 ≤ 8)
    (hv : v = c0 + 256 * (c1 + 256 * (c2 + 256 * (c3 + 256 * (c4 + 256 * (c5 + 256 * (c6 + 256 * c7))))))) (hw : w = v + v / 256) (hz : z = w + w / 65536) :
    (z + z / 4294967296) % 128 = c0 + (c1 + (c2 + (c3 + (c4 + (c5 + (c6 + c7)))))) := by
  have p2 : (65536 : Nat) = 256 * 256 := by decide
  have p4 : (4294967296 : Nat) = 256 * 256 * 256 * 256 := by decide
  have e1 : v / 256 = c1 + 256 * (c2 + 256 * (c3 + 256 * (c4 + 256 * (c5 + 256 * (c6 + 256 * c7))))) := by rw [hv]; exact dv256 (by omega)
  have w1 : w = (c0 + c1) + 256 * ((c1 + c2) + 256 * ((c2 + c3) + 256 * ((c3 + c4) + 256 * ((c4 + c5) + 256 * ((c5 + c6) + 256 * ((c6 + c7) + 256 * c7)))))) := by
    rw [hw, e1, hv, ad256, ad256, ad256, ad256, ad256, ad256]
    have : c6 + 256 * c7 + c7 = c6 + c7 + 256 * c7 := by omega
    rw [this]
  clear hw e1 hv
  have e2 : w / 65536 = (c2 + c3) + 256 * ((c3 + c4) + 256 * ((c4 + c5) + 256 * ((c5 + c6) + 256 * ((c6 + c7) + 256 * c7)))) := by
    rw [w1, p2, ← Nat.div_div_eq_div_mul, dv256 (by omega), dv256 (by omega)]
  have z1 : z = (c0 + c1 + (c2 + c3)) + 256 * ((c1 + c2 + (c3 + c4)) + 256 * ((c2 + c3 + (c4 + c5)) + 256 * ((c3 + c4 + (c5 + c6)) + 256 * ((c4 + c5 + (c6 + c7)) + 256 * ((c5 + c6) + 256 * (c6 + c7 + 256 * c7) + c7))))) := by
    rw [hz, e2, w1, ad256, ad256, ad256, ad256, ad256]
  clear hz e2 w1
  have e3 : z / 4294967296 = (c4 + c5 + (c6 + c7)) + 256 * ((c5 + c6) + 256 * (c6 + c7 + 256 * c7) + c7) := by
    rw [z1, p4, ← Nat.div_div_eq_div_mul, ← Nat.div_div_eq_div_mul, ← Nat.div_div_eq_div_mul, dv256 (by omega), dv256 (by omega), dv256 (by omega), dv256 (by omega)]
  rw [e3, z1, ad256]
  generalize (c1 + c2 + (c3 + c4) + 256 * (c2 + c3 + (c4 + c5) + 256 * (c3 + c4 + (c5 + c6) + 256 * (c4 + c5 + (c6 + c7) + 256 * (c5 + c6 + 256 * (c6 + c7 + 256 * c7) + c7)))) + (c5 + c6 + 256 * (c6 + c7 + 256 * c7) + c7)) = K
  omega

