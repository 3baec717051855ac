/-! bits of longs -/
theorem ush_k : ∀ j : Fin 64, ((nI j.1).toInt64.toUInt64 &&& Int64.toUInt64 63).toBitVec % 64#64 = BitVec.ofNat 64 j.1 := by decide +kernel
theorem bt_ushr {x : Int64} {j c : Nat} (hj : j < 64) : bt ((x.toUInt64 >>> ((nI j).toInt64.toUInt64 &&& Int64.toUInt64 63)).toInt64) c ↔ bt x (c + j) := by
  have e : ((x.toUInt64 >>> ((nI j).toInt64.toUInt64 &&& Int64.toUInt64 63)).toInt64).toBitVec = x.toBitVec >>> j := by
    show (x.toUInt64 >>> ((nI j).toInt64.toUInt64 &&& Int64.toUInt64 63)).toBitVec = _
    rw [UInt64.toBitVec_shiftRight]
    have := ush_k ⟨j, hj⟩
    show x.toBitVec >>> (((nI j).toInt64.toUInt64 &&& Int64.toUInt64 63).toBitVec % 64#64) = _
    rw [this]
    show x.toBitVec >>> (BitVec.ofNat 64 j).toNat = _
    rw [BitVec.toNat_ofNat, Nat.mod_eq_of_lt (by omega)]
  unfold bt
  rw [e, BitVec.getLsbD_ushiftRight, Nat.add_comm]
theorem shl_k : ∀ j : Fin 64, (((nI j.1).toInt64 &&& 63).toBitVec.smod 64) = BitVec.ofNat 64 j.1 := by decide +kernel
theorem bt_shl {x : Int64} {j c : Nat} (hj : j < 64) (hc : c < 64) : bt (x <<< ((nI j).toInt64 &&& 63)) c ↔ j ≤ c ∧ bt x (c - j) := by
  have e : (x <<< ((nI j).toInt64 &&& 63)).toBitVec = x.toBitVec <<< j := by
    show x.toBitVec <<< (((nI j).toInt64 &&& 63).toBitVec.smod 64) = _
    rw [shl_k ⟨j, hj⟩]
    show x.toBitVec <<< (BitVec.ofNat 64 j).toNat = _
    rw [BitVec.toNat_ofNat, Nat.mod_eq_of_lt (by omega)]
  unfold bt
  rw [e, BitVec.getLsbD_shiftLeft]
  simp [hc]
theorem bt_and {x y : Int64} {c : Nat} : bt (x &&& y) c ↔ bt x c ∧ bt y c := by
  unfold bt
  rw [Int64.toBitVec_and, BitVec.getLsbD_and, Bool.and_eq_true]
theorem bt_not {x : Int64} {c : Nat} (hc : c < 64) : bt (x ^^^ -1) c ↔ ¬ bt x c := by
  unfold bt
  rw [Int64.toBitVec_xor, BitVec.getLsbD_xor]
  have : ∀ c : Fin 64, (-1 : Int64).toBitVec.getLsbD c.1 = true := by decide +kernel
  rw [this ⟨c, hc⟩]
  cases x.toBitVec.getLsbD c <;> simp
theorem bt_ext {x y : Int64} (h : ∀ c, c < 64 → (bt x c ↔ bt y c)) : x = y := by
  apply Int64.toBitVec_inj.mp
  apply BitVec.eq_of_getLsbD_eq
  intro c hc
  have := h c hc
  unfold bt at this
  exact Bool.eq_iff_iff.mpr this
theorem bt_0 {c : Nat} : ¬ bt 0 c := by
  unfold bt
  rw [show (0 : Int64).toBitVec = 0#64 from rfl, BitVec.getLsbD_zero]
  decide
theorem bt_z {x : Int64} : x = 0 ↔ ∀ c, c < 64 → ¬ bt x c := ⟨fun h c _ => by rw [h]; exact bt_0, fun h => bt_ext (fun c hc => ⟨fun q => absurd q (h c hc), fun q => absurd q bt_0⟩)⟩
theorem all_k : ∀ c : Fin 64, ((281474976710655 : Int64).toBitVec.getLsbD c.1 = true) ↔ c.1 < 48 := by decide +kernel
theorem bt_all {x : Int64} {c : Nat} (hc : c < 64) : bt (x &&& 281474976710655) c ↔ bt x c ∧ c < 48 := by
  rw [bt_and]
  have := all_k ⟨c, hc⟩
  exact and_congr Iff.rfl this
theorem lN_of (y : Int64) : ∃ n, y = lN n := ⟨y.toBitVec.toNat, by
  apply Int64.toBitVec_inj.mp
  show y.toBitVec = BitVec.ofNat 64 y.toBitVec.toNat
  rw [BitVec.ofNat_toNat, BitVec.setWidth_eq]⟩
theorem bit0 (y : Int64) : (y &&& 1 = 0) ↔ ¬ bt y 0 := by
  rw [bt_z]
  constructor
  · intro h q
    refine h 0 (by decide) (bt_and.mpr ⟨q, ?_⟩)
    show (1 : Int64).toBitVec.getLsbD 0 = true
    decide
  · intro h c hc q
    obtain ⟨q1, q2⟩ := bt_and.mp q
    have : ∀ c : Fin 64, (1 : Int64).toBitVec.getLsbD c.1 = true → c.1 = 0 := by decide +kernel
    have := this ⟨c, hc⟩ q2
    exact h (by rw [← this]; exact q1)
section
variable {κ : Nat → Nat} {R : xR → xH → Prop} {ah : xH}
theorem sp_hasC {x : Int64} {j : Nat} (hj : j < 64) : xm κ 13 [.long x, .int (nI j)] ah R ↔ R (.inl (some (.int (xb (bt x j))))) ah := by
  have hb := bit0 ((x.toUInt64 >>> ((nI j).toInt64.toUInt64 &&& Int64.toUInt64 63)).toInt64)
  rw [bt_ushr hj, Nat.zero_add] at hb
  by_cases q : bt x j
  · have e : ((x.toUInt64 >>> ((nI j).toInt64.toUInt64 &&& Int64.toUInt64 63)).toInt64 &&& 1 = 0) = False := eq_false (fun q' => hb.mp q' q)
    rw [xb_t q]
    simp (disch := omega) only [en13, e13_0, e13_1, e13_2, e13_3, e13_4, e13_5, e13_6, e13_7, e13_10, e13_11, e13_14, e13_15, xKv, xK0, xKx, xKHv, xKH0, xk_none, xk_i, xk_f, xk_l, xk_r, xk_n, xc_i, xc_f, xc_l, xc_d, xc_r, xc_n, xo_some, List.map_cons, List.map_nil, List.sum_cons, List.sum_nil, xnzn, xpn0, xpn1, xpnb, xpnn, i10, i00, true_imp_iff, false_imp_iff, not_true_eq_false, not_false_eq_true, true_and, and_true, implies_true, xnz0, xnz1, xnzb, xfz0, xfz1, xfzb, Option.isSome_some, if_true, if_false, xbF, xbT, and_false, false_and, Nat.zero_le, Nat.reduceEqDiff, Nat.reduceLeDiff, Nat.reduceAdd, Nat.reduceSub, xiT, xiF, pk_mul, nI_add, Nat.add_sub_cancel, lad0, leq0, lle0, lge0, llt0, lgt0, leq1, lle1, lge1, llt1, lgt1, lad1, lsu1, leq2, lle2, lge2, llt2, lgt2, lmu2, lmv2, lad2, lsu2, ldi2, leq3, lle3, lge3, llt3, lgt3, lmu3, lmv3, lad3, lsu3, ldi3, leq4, lle4, lge4, llt4, lgt4, lmu4, lmv4, lad4, lsu4, ldi4, leq5, lle5, lge5, llt5, lgt5, lmu5, lmv5, lad5, lsu5, ldi5, leq6, lle6, lge6, llt6, lgt6, lmu6, lmv6, lad6, lsu6, ldi6, leq8, lle8, lge8, llt8, lgt8, lmu8, lmv8, lad8, lsu8, ldi8, leq9, lle9, lge9, llt9, lgt9, lmu9, lmv9, lad9, lsu9, ldi9, leq10, lle10, lge10, llt10, lgt10, lmu10, lmv10, lad10, lsu10, ldi10, leq12, lle12, lge12, llt12, lgt12, lmu12, lmv12, lad12, lsu12, ldi12, leq20, lle20, lge20, llt20, lgt20, lmu20, lmv20, lad20, lsu20, ldi20, leq25, lle25, lge25, llt25, lgt25, lmu25, lmv25, lad25, lsu25, ldi25, leq30, lle30, lge30, llt30, lgt30, lmu30, lmv30, lad30, lsu30, ldi30, leq48, lle48, lge48, llt48, lgt48, lmu48, lmv48, lad48, lsu48, ldi48, leq50, lle50, lge50, llt50, lgt50, lmu50, lmv50, lad50, lsu50, ldi50, leq99, lle99, lge99, llt99, lgt99, lmu99, lmv99, lad99, lsu99, ldi99, leq100, lle100, lge100, llt100, lgt100, lmu100, lmv100, lad100, lsu100, ldi100, leq2000, lle2000, lge2000, llt2000, lgt2000, lmu2000, lmv2000, lad2000, lsu2000, ldi2000, lg_cmp_eq, e]
  · have e : ((x.toUInt64 >>> ((nI j).toInt64.toUInt64 &&& Int64.toUInt64 63)).toInt64 &&& 1 = 0) = True := eq_true (hb.mpr q)
    rw [xb_f q]
    simp (disch := omega) only [en13, e13_0, e13_1, e13_2, e13_3, e13_4, e13_5, e13_6, e13_7, e13_10, e13_11, e13_14, e13_15, xKv, xK0, xKx, xKHv, xKH0, xk_none, xk_i, xk_f, xk_l, xk_r, xk_n, xc_i, xc_f, xc_l, xc_d, xc_r, xc_n, xo_some, List.map_cons, List.map_nil, List.sum_cons, List.sum_nil, xnzn, xpn0, xpn1, xpnb, xpnn, i10, i00, true_imp_iff, false_imp_iff, not_true_eq_false, not_false_eq_true, true_and, and_true, implies_true, xnz0, xnz1, xnzb, xfz0, xfz1, xfzb, Option.isSome_some, if_true, if_false, xbF, xbT, and_false, false_and, Nat.zero_le, Nat.reduceEqDiff, Nat.reduceLeDiff, Nat.reduceAdd, Nat.reduceSub, xiT, xiF, pk_mul, nI_add, Nat.add_sub_cancel, lad0, leq0, lle0, lge0, llt0, lgt0, leq1, lle1, lge1, llt1, lgt1, lad1, lsu1, leq2, lle2, lge2, llt2, lgt2, lmu2, lmv2, lad2, lsu2, ldi2, leq3, lle3, lge3, llt3, lgt3, lmu3, lmv3, lad3, lsu3, ldi3, leq4, lle4, lge4, llt4, lgt4, lmu4, lmv4, lad4, lsu4, ldi4, leq5, lle5, lge5, llt5, lgt5, lmu5, lmv5, lad5, lsu5, ldi5, leq6, lle6, lge6, llt6, lgt6, lmu6, lmv6, lad6, lsu6, ldi6, leq8, lle8, lge8, llt8, lgt8, lmu8, lmv8, lad8, lsu8, ldi8, leq9, lle9, lge9, llt9, lgt9, lmu9, lmv9, lad9, lsu9, ldi9, leq10, lle10, lge10, llt10, lgt10, lmu10, lmv10, lad10, lsu10, ldi10, leq12, lle12, lge12, llt12, lgt12, lmu12, lmv12, lad12, lsu12, ldi12, leq20, lle20, lge20, llt20, lgt20, lmu20, lmv20, lad20, lsu20, ldi20, leq25, lle25, lge25, llt25, lgt25, lmu25, lmv25, lad25, lsu25, ldi25, leq30, lle30, lge30, llt30, lgt30, lmu30, lmv30, lad30, lsu30, ldi30, leq48, lle48, lge48, llt48, lgt48, lmu48, lmv48, lad48, lsu48, ldi48, leq50, lle50, lge50, llt50, lgt50, lmu50, lmv50, lad50, lsu50, ldi50, leq99, lle99, lge99, llt99, lgt99, lmu99, lmv99, lad99, lsu99, ldi99, leq100, lle100, lge100, llt100, lgt100, lmu100, lmv100, lad100, lsu100, ldi100, leq2000, lle2000, lge2000, llt2000, lgt2000, lmu2000, lmv2000, lad2000, lsu2000, ldi2000, lg_cmp_eq, e]
def bsd (x : Int64) : Int64 := ((((x.toUInt64 >>> ((8 : Int32).toInt64.toUInt64 &&& Int64.toUInt64 63)).toInt64 ||| x <<< ((8 : Int32).toInt64 &&& 63)) ||| ((x &&& -1103823438082).toUInt64 >>> ((1 : Int32).toInt64.toUInt64 &&& Int64.toUInt64 63)).toInt64) ||| (x &&& -141289400074369) <<< ((1 : Int32).toInt64 &&& 63)) &&& 281474976710655
theorem sp_beside {x : Int64} : xm κ 84 [.long x] ah R ↔ R (.inl (some (.long (bsd x)))) ah := by
  unfold bsd
  simp (disch := omega) only [en84, e84_0, e84_1, e84_3, e84_4, e84_5, e84_6, e84_8, e84_9, e84_11, e84_12, e84_15, e84_16, e84_17, e84_18, e84_20, e84_21, e84_24, e84_25, e84_26, e84_27, e84_29, e84_30, e84_32, e84_33, e84_35, e84_36, e84_38, e84_39, e84_42, e84_43, xKv, xK0, xKx, xKHv, xKH0, xk_none, xk_i, xk_f, xk_l, xk_r, xk_n, xc_i, xc_f, xc_l, xc_d, xc_r, xc_n, xo_some, List.map_cons, List.map_nil, List.sum_cons, List.sum_nil, xnzn, xpn0, xpn1, xpnb, xpnn, i10, i00, true_imp_iff, false_imp_iff, not_true_eq_false, not_false_eq_true, true_and, and_true, implies_true, xnz0, xnz1, xnzb, xfz0, xfz1, xfzb, Option.isSome_some, if_true, if_false, xbF, xbT, and_false, false_and, Nat.zero_le, Nat.reduceEqDiff, Nat.reduceLeDiff, Nat.reduceAdd, Nat.reduceSub, xiT, xiF]
theorem fir_k : ∀ c : Fin 48, ((-1103823438082 : Int64).toBitVec.getLsbD c.1 = true) ↔ ¬ c.1 % 8 = 0 := by decide +kernel
theorem las_k : ∀ c : Fin 48, ((-141289400074369 : Int64).toBitVec.getLsbD c.1 = true) ↔ ¬ c.1 % 8 = 7 := by decide +kernel
theorem bt_bsd {x : Int64} (hx : ∀ c, c < 64 → bt x c → c < 48) {c : Nat} (hc : c < 64) : bt (bsd x) c ↔ c < 48 ∧ ∃ b, b < 48 ∧ bt x b ∧ besd b c := by
  unfold bsd
  rw [bt_all hc, bt_or, bt_or, bt_or]
  have e8 : (8 : Int32) = nI 8 := rfl
  have e1 : (1 : Int32) = nI 1 := rfl
  rw [e8, e1, bt_ushr (by decide), bt_ushr (by decide), bt_shl (by decide) hc, bt_shl (by decide) hc, bt_and, bt_and]
  have x48 : ∀ c, 64 ≤ c → ¬ bt x c := fun c hc q => by
    unfold bt at q
    rw [BitVec.getLsbD_of_ge _ _ hc] at q
    cases q
  have hx' : ∀ c, bt x c → c < 48 := fun c q => by
    by_cases h : c < 64
    · exact hx c h q
    · exact absurd q (x48 c (by omega))
  constructor
  · rintro ⟨((q | q) | q) | q, h⟩
    · have hb := hx' _ q
      exact ⟨h, c + 8, hb, q, Or.inr (Or.inr rfl)⟩
    · have hb := hx' _ q.2
      exact ⟨h, c - 8, hb, q.2, Or.inr (Or.inl (by omega))⟩
    · have hb := hx' _ q.1
      have := (fir_k ⟨c + 1, hb⟩).mp q.2
      dsimp only at this
      exact ⟨h, c + 1, hb, q.1, Or.inl ⟨by omega, Or.inr rfl⟩⟩
    · have hb := hx' _ q.2.1
      have := (las_k ⟨c - 1, hb⟩).mp q.2.2
      dsimp only at this
      exact ⟨h, c - 1, hb, q.2.1, Or.inl ⟨by omega, Or.inl (by omega)⟩⟩
  · rintro ⟨h, b, hb, hbt, ⟨h1, h2 | h2⟩ | h2 | h2⟩
    · refine ⟨Or.inr ⟨by omega, ?_⟩, h⟩
      have e : c - 1 = b := by omega
      rw [e]
      exact ⟨hbt, (las_k ⟨b, hb⟩).mpr (by dsimp only; omega)⟩
    · refine ⟨Or.inl (Or.inr ?_), h⟩
      rw [← h2]
      exact ⟨hbt, (fir_k ⟨b, hb⟩).mpr (by dsimp only; omega)⟩
    · refine ⟨Or.inl (Or.inl (Or.inr ⟨by omega, ?_⟩)), h⟩
      have e : c - 8 = b := by omega
      rw [e]
      exact hbt
    · refine ⟨Or.inl (Or.inl (Or.inl ?_)), h⟩
      rw [← h2]
      exact hbt
end

