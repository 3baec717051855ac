/-! Long.bitCount, over longs -/
theorem cnt_split {P : Nat → Prop} (a : Nat) : ∀ b, cnt P (a + b) = cnt P a + cnt (fun j => P (a + j)) b := by
  intro b
  induction b with
  | zero => rfl
  | succ b ih =>
    show cnt P (a + b) + xi (P (a + b)) 1 0 = cnt P a + (cnt (fun j => P (a + j)) b + xi (P (a + b)) 1 0)
    rw [ih, Nat.add_assoc]
theorem xi_tb (n j : Nat) : xi (n.testBit j = true) 1 0 = n / 2 ^ j % 2 := by
  have h := Nat.testBit_eq_decide_div_mod_eq (x := n) (i := j)
  by_cases q : n / 2 ^ j % 2 = 1
  · rw [xi_t (by rw [h]; exact decide_eq_true q), q]
  · rw [xi_f (by rw [h]; exact fun q' => q (of_decide_eq_true q'))]
    omega
theorem cnt_8 (n : Nat) : cnt (fun j => n.testBit j = true) 8 = tby (n % 256) := by
  show 0 + xi (n.testBit 0 = true) 1 0 + xi (n.testBit 1 = true) 1 0 + xi (n.testBit 2 = true) 1 0 + xi (n.testBit 3 = true) 1 0 + xi (n.testBit 4 = true) 1 0 + xi (n.testBit 5 = true) 1 0 + xi (n.testBit 6 = true) 1 0 + xi (n.testBit 7 = true) 1 0 = _
  rw [xi_tb, xi_tb, xi_tb, xi_tb, xi_tb, xi_tb, xi_tb, xi_tb]
  have p0 : (2 : Nat) ^ 0 = 1 := by decide
  have p1 : (2 : Nat) ^ 1 = 2 := by decide
  have p2 : (2 : Nat) ^ 2 = 4 := by decide
  have p3 : (2 : Nat) ^ 3 = 8 := by decide
  have p4 : (2 : Nat) ^ 4 = 16 := by decide
  have p5 : (2 : Nat) ^ 5 = 32 := by decide
  have p6 : (2 : Nat) ^ 6 = 64 := by decide
  have p7 : (2 : Nat) ^ 7 = 128 := by decide
  rw [p0, p1, p2, p3, p4, p5, p6, p7]
  have d0 : n % 256 % 2 = n / 1 % 2 := by omega
  have d1 : n % 256 / 2 % 2 = n / 2 % 2 := by omega
  have d2 : n % 256 / 4 % 2 = n / 4 % 2 := by omega
  have d3 : n % 256 / 8 % 2 = n / 8 % 2 := by omega
  have d4 : n % 256 / 16 % 2 = n / 16 % 2 := by omega
  have d5 : n % 256 / 32 % 2 = n / 32 % 2 := by omega
  have d6 : n % 256 / 64 % 2 = n / 64 % 2 := by omega
  have d7 : n % 256 / 128 % 2 = n / 128 % 2 := by omega
  unfold tby
  rw [d0, d1, d2, d3, d4, d5, d6, d7, Nat.zero_add]
theorem cnt_sby : ∀ (k n : Nat), cnt (fun j => n.testBit j = true) (8 * k) = sby k n := by
  intro k
  induction k with
  | zero => intro n; rfl
  | succ k ih =>
    intro n
    have e : 8 * (k + 1) = 8 + 8 * k := by omega
    rw [e, cnt_split, cnt_8]
    show _ = tby (n % 256) + sby k (n / 256)
    rw [← ih]
    congr 1
    refine cnt_cg _ (fun j _ => ?_)
    have : n.testBit (8 + j) = (n / 2 ^ 8).testBit j := by rw [Nat.testBit_div_two_pow, Nat.add_comm]
    rw [this]
theorem bt_lN {n j : Nat} (hj : j < 64) : bt (lN n) j ↔ n.testBit j = true := by
  unfold bt
  show (BitVec.ofNat 64 n).getLsbD j = true ↔ _
  rw [BitVec.getLsbD_ofNat]
  simp [hj]
theorem lN_and (a b : Nat) : lN a &&& lN b = lN (a &&& b) := by
  apply bt_ext
  intro c hc
  rw [bt_and, bt_lN hc, bt_lN hc, bt_lN hc, Nat.testBit_and, Bool.and_eq_true]
theorem lN_ushr {n k : Nat} (hk : k < 64) (hn : n < 2 ^ 64) : ((lN n).toUInt64 >>> ((nI k).toInt64.toUInt64 &&& Int64.toUInt64 63)).toInt64 = lN (n / 2 ^ k) := by
  apply bt_ext
  intro c hc
  rw [bt_ushr hk, bt_lN hc]
  have e : (n / 2 ^ k).testBit c = n.testBit (k + c) := by rw [Nat.testBit_div_two_pow, Nat.add_comm]
  rw [e, Nat.add_comm]
  by_cases h : k + c < 64
  · exact bt_lN h
  · have : n.testBit (k + c) = false := Nat.testBit_lt_two_pow (Nat.lt_of_lt_of_le hn (Nat.pow_le_pow_right (by decide) (by omega)))
    rw [this]
    refine ⟨fun q => ?_, fun q => by cases q⟩
    unfold bt at q
    rw [BitVec.getLsbD_of_ge _ _ (by omega)] at q
    cases q
theorem m85 : mby 85 8 = 6148914691236517205 := by decide
theorem m51 : mby 51 8 = 3689348814741910323 := by decide
theorem m15 : mby 15 8 = 1085102592571150095 := by decide
theorem bs1 {n : Nat} (hn : n < 2 ^ 64) : lN n - (((lN n).toUInt64 >>> ((1 : Int32).toInt64.toUInt64 &&& Int64.toUInt64 63)).toInt64 &&& 6148914691236517205) = lN (st1 (mby 85 8) n) := by
  have e : ((lN n).toUInt64 >>> ((1 : Int32).toInt64.toUInt64 &&& Int64.toUInt64 63)).toInt64 = lN (n / 2 ^ 1) := lN_ushr (k := 1) (by decide) hn
  have m : (6148914691236517205 : Int64) = lN (mby 85 8) := by rw [m85]; rfl
  rw [e, m, lN_and, xLsub (Nat.le_trans Nat.and_le_left (Nat.div_le_self _ _))]
  rfl
theorem bs2 {n : Nat} (hn : n < 2 ^ 64) : (lN n &&& 3689348814741910323) + (((lN n).toUInt64 >>> ((2 : Int32).toInt64.toUInt64 &&& Int64.toUInt64 63)).toInt64 &&& 3689348814741910323) = lN (st2 (mby 51 8) n) := by
  have e : ((lN n).toUInt64 >>> ((2 : Int32).toInt64.toUInt64 &&& Int64.toUInt64 63)).toInt64 = lN (n / 2 ^ 2) := lN_ushr (k := 2) (by decide) hn
  have m : (3689348814741910323 : Int64) = lN (mby 51 8) := by rw [m51]; rfl
  rw [e, m, lN_and, lN_and, xLadd]
  rfl
theorem bs3 {n : Nat} (hn : n < 2 ^ 64) : (lN n + ((lN n).toUInt64 >>> ((4 : Int32).toInt64.toUInt64 &&& Int64.toUInt64 63)).toInt64) &&& 1085102592571150095 = lN (st3 (mby 15 8) n) := by
  have e : ((lN n).toUInt64 >>> ((4 : Int32).toInt64.toUInt64 &&& Int64.toUInt64 63)).toInt64 = lN (n / 2 ^ 4) := lN_ushr (k := 4) (by decide) hn
  have m : (1085102592571150095 : Int64) = lN (mby 15 8) := by rw [m15]; rfl
  rw [e, m, xLadd, lN_and]
  rfl
theorem bs4 {n : Nat} (hn : n < 2 ^ 64) : lN n + ((lN n).toUInt64 >>> ((8 : Int32).toInt64.toUInt64 &&& Int64.toUInt64 63)).toInt64 = lN (n + n / 256) := by
  have e : ((lN n).toUInt64 >>> ((8 : Int32).toInt64.toUInt64 &&& Int64.toUInt64 63)).toInt64 = lN (n / 2 ^ 8) := lN_ushr (k := 8) (by decide) hn
  rw [e, xLadd]
theorem bs5 {n : Nat} (hn : n < 2 ^ 64) : lN n + ((lN n).toUInt64 >>> ((16 : Int32).toInt64.toUInt64 &&& Int64.toUInt64 63)).toInt64 = lN (n + n / 65536) := by
  have e : ((lN n).toUInt64 >>> ((16 : Int32).toInt64.toUInt64 &&& Int64.toUInt64 63)).toInt64 = lN (n / 2 ^ 16) := lN_ushr (k := 16) (by decide) hn
  rw [e, xLadd]
theorem bs6 {n : Nat} (hn : n < 2 ^ 64) : lN n + ((lN n).toUInt64 >>> ((32 : Int32).toInt64.toUInt64 &&& Int64.toUInt64 63)).toInt64 = lN (n + n / 4294967296) := by
  have e : ((lN n).toUInt64 >>> ((32 : Int32).toInt64.toUInt64 &&& Int64.toUInt64 63)).toInt64 = lN (n / 2 ^ 32) := lN_ushr (k := 32) (by decide) hn
  rw [e, xLadd]
theorem bs7 {n : Nat} : nI n &&& 127 = nI (n % 128) := by
  apply Int32.toBitVec_inj.mp
  rw [Int32.toBitVec_and]
  show BitVec.ofNat 32 n &&& 127#32 = BitVec.ofNat 32 (n % 128)
  apply BitVec.eq_of_toNat_eq
  rw [BitVec.toNat_and, BitVec.toNat_ofNat, BitVec.toNat_ofNat, BitVec.toNat_ofNat]
  have p : 127 % 2 ^ 32 = 2 ^ 7 - 1 := by decide
  rw [p, Nat.and_two_pow_sub_one_eq_mod]
  have : (2 : Nat) ^ 7 = 128 := by decide
  rw [this]
  omega
section
variable {κ : Nat → Nat} {R : xR → xH → Prop} {ah : xH}
theorem sp_bitC {x : Int64} : xm κ 95 [.long x] ah R ↔ R (.inl (some (.int (nI (cnt (bt x) 64))))) ah := by
  have hx : x = lN x.toBitVec.toNat := by
    apply Int64.toBitVec_inj.mp
    show x.toBitVec = BitVec.ofNat 64 x.toBitVec.toNat
    rw [BitVec.ofNat_toNat, BitVec.setWidth_eq]
  have hn : x.toBitVec.toNat < 2 ^ 64 := x.toBitVec.isLt
  generalize x.toBitVec.toNat = n at hx hn
  subst hx
  have hc : cnt (bt (lN n)) 64 = sby 8 n := by
    rw [← cnt_sby]
    exact cnt_cg 64 (fun j hj => bt_lN hj)
  obtain ⟨c0, c1, c2, c3, c4, c5, c6, c7, h0, h1, h2, h3, h4, h5, h6, h7, hv, hs⟩ := stT_8 n hn
  have he := pop_end h0 h1 h2 h3 h4 h5 h6 h7 hv rfl rfl
  rw [← hs] at he
  rw [hc]
  have b1 : st1 (mby 85 8) n < 2 ^ 64 := by unfold st1; omega
  have b2 : st2 (mby 51 8) (st1 (mby 85 8) n) < 2 ^ 64 := by
    have a1 : (st1 (mby 85 8) n &&& mby 51 8) ≤ mby 51 8 := Nat.and_le_right
    have a2 : (st1 (mby 85 8) n / 4 &&& mby 51 8) ≤ mby 51 8 := Nat.and_le_right
    rw [m51] at a1 a2
    unfold st2
    rw [m51]
    omega
  have b3 : stT 8 n < 2 ^ 62 := by
    have a1 : stT 8 n ≤ mby 15 8 := Nat.and_le_right
    rw [m15] at a1
    omega
  have et : st3 (mby 15 8) (st2 (mby 51 8) (st1 (mby 85 8) n)) = stT 8 n := rfl
  have b4 : stT 8 n + stT 8 n / 256 < 2 ^ 63 := by omega
  have b5 : stT 8 n + stT 8 n / 256 + (stT 8 n + stT 8 n / 256) / 65536 < 2 ^ 64 := by omega
  have b3' : stT 8 n < 2 ^ 64 := by omega
  have b4' : stT 8 n + stT 8 n / 256 < 2 ^ 64 := by omega
  simp (disch := assumption) only [en95, e95_0, e95_1, e95_2, e95_3, e95_4, e95_7, e95_8, e95_9, e95_10, e95_11, e95_14, e95_15, e95_16, e95_17, e95_18, e95_21, e95_22, e95_23, e95_24, e95_25, e95_26, e95_27, e95_28, e95_29, e95_32, e95_33, e95_34, e95_35, e95_36, e95_38, e95_39, e95_40, e95_41, e95_42, e95_43, e95_45, e95_46, e95_47, e95_48, e95_49, e95_50, e95_52, e95_53, e95_54, e95_55, e95_56, e95_57, e95_59, e95_60, xKv, xK0, xKx, xKHv, xKH0, xk_none, xk_i, xk_f, xk_l, xk_r, xk_n, xc_i, xc_f, xc_l, xc_d, xc_r, xc_n, xo_some, List.map_cons, List.map_nil, List.sum_cons, List.sum_nil, xnzn, xpn0, xpn1, xpnb, xpnn, i10, i00, true_imp_iff, false_imp_iff, not_true_eq_false, not_false_eq_true, true_and, and_true, implies_true, xnz0, xnz1, xnzb, xfz0, xfz1, xfzb, Option.isSome_some, if_true, if_false, xbF, xbT, and_false, false_and, Nat.zero_le, Nat.reduceEqDiff, Nat.reduceLeDiff, Nat.reduceAdd, Nat.reduceSub, xiT, xiF, bs1, bs2, bs3, et, bs4, bs5, bs6, xLi, bs7, he]
end

