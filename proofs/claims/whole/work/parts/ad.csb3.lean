/-! StringBuilder: append(int), charAt -/
theorem ngk : ∀ k : Fin 21, (-(nI k.1) ≤ (-10 : Int32)) = (10 ≤ k.1) ∧ (-(nI k.1) ≤ (-100 : Int32)) = False ∧ ((-100 : Int32) < -(nI k.1)) = True ∧ ((-9 : Int32) ≤ -(nI k.1)) = (k.1 ≤ 9) ∧ -(-(nI k.1)) = nI k.1 := by
  intro k
  have h : ∀ k : Fin 21, ((-(nI k.1) ≤ (-10 : Int32)) ↔ (10 ≤ k.1)) ∧ ¬ (-(nI k.1) ≤ (-100 : Int32)) ∧ ((-100 : Int32) < -(nI k.1)) ∧ (((-9 : Int32) ≤ -(nI k.1)) ↔ (k.1 ≤ 9)) ∧ -(-(nI k.1)) = nI k.1 := by decide +kernel
  obtain ⟨h1, h2, h3, h4, h5⟩ := h k
  exact ⟨propext h1, eq_false h2, eq_true h3, propext h4, h5⟩
theorem vnb : ∀ c : Fin 128, vp_nar .byte (Int32.ofNat c.1) = nI c.1 := by decide +kernel
section
variable {κ : Nat → Nat} {R : xR → xH → Prop} {h0 ah : xH} {b v N n : Nat} {g : Nat → Nat}
theorem sp_size' {k : Nat} (hk : k ≤ 20) : xm κ 175 [.int (nI k)] ah R ↔ R (.inl (some (.int (nI (dgw k))))) ah := by
  obtain ⟨h1, h2, h3, h4, h5⟩ := ngk ⟨k, by omega⟩
  dsimp only at h1 h2 h3 h4 h5
  rw [en175]
  simp (disch := omega) only [e175_0, e175_1, e175_2, e175_3, e175_6, e175_7, e175_8, e175_9, e175_10, e175_11, e175_13, e175_14, e175_15, xKv, xK0, xKx, xKHv, xKH0, xk_none, xk_i, xk_f, xk_l, xk_r, xk_n, xc_i, xc_f, xc_l, xc_d, xc_r, xc_n, xo_some, List.map_cons, List.map_nil, List.sum_cons, List.sum_nil, xnzn, xpn0, xpn1, xpnb, xpnn, i10, i00, true_imp_iff, false_imp_iff, not_true_eq_false, not_false_eq_true, true_and, and_true, implies_true, xnz0, xnz1, xnzb, xfz0, xfz1, xfzb, Option.isSome_some, if_true, if_false, xbF, xbT, and_false, false_and, Nat.zero_le, Nat.reduceEqDiff, Nat.reduceLeDiff, Nat.reduceAdd, Nat.reduceSub, xiT, xiF, pk_mul, nI_add, Nat.add_sub_cancel, lad0, leq0, lle0, lge0, llt0, lgt0, leq1, lle1, lge1, llt1, lgt1, lad1, lsu1, leq2, lle2, lge2, llt2, lgt2, lmu2, lmv2, lad2, lsu2, ldi2, leq3, lle3, lge3, llt3, lgt3, lmu3, lmv3, lad3, lsu3, ldi3, leq4, lle4, lge4, llt4, lgt4, lmu4, lmv4, lad4, lsu4, ldi4, leq5, lle5, lge5, llt5, lgt5, lmu5, lmv5, lad5, lsu5, ldi5, leq6, lle6, lge6, llt6, lgt6, lmu6, lmv6, lad6, lsu6, ldi6, leq8, lle8, lge8, llt8, lgt8, lmu8, lmv8, lad8, lsu8, ldi8, leq9, lle9, lge9, llt9, lgt9, lmu9, lmv9, lad9, lsu9, ldi9, leq10, lle10, lge10, llt10, lgt10, lmu10, lmv10, lad10, lsu10, ldi10, leq12, lle12, lge12, llt12, lgt12, lmu12, lmv12, lad12, lsu12, ldi12, leq20, lle20, lge20, llt20, lgt20, lmu20, lmv20, lad20, lsu20, ldi20, leq25, lle25, lge25, llt25, lgt25, lmu25, lmv25, lad25, lsu25, ldi25, leq30, lle30, lge30, llt30, lgt30, lmu30, lmv30, lad30, lsu30, ldi30, leq48, lle48, lge48, llt48, lgt48, lmu48, lmv48, lad48, lsu48, ldi48, leq50, lle50, lge50, llt50, lgt50, lmu50, lmv50, lad50, lsu50, ldi50, leq99, lle99, lge99, llt99, lgt99, lmu99, lmv99, lad99, lsu99, ldi99, leq100, lle100, lge100, llt100, lgt100, lmu100, lmv100, lad100, lsu100, ldi100, leq2000, lle2000, lge2000, llt2000, lgt2000, lmu2000, lmv2000, lad2000, lsu2000, ldi2000, ltF]
  have l10 : ((10 : Int32) ≤ 1) = False := by decide
  have l11 : ((10 : Int32) ≤ 2) = False := by decide
  have m10 : (10 : Int32) * -10 = -100 := by decide
  have a1 : (1 : Int32) + 1 = 2 := by decide
  rw [e175_16]
  by_cases q : k ≤ 9
  · have ed : dgw k = 1 := if_pos q
    rw [ed]
    have h1' : (10 ≤ k) = False := eq_false (by omega)
    rw [h1'] at h1
    simp (disch := omega) only [e175_17, e175_19, e175_22, e175_23, e175_24, e175_27, e175_28, e175_29, e175_30, e175_31, e175_33, e175_34, e175_35, e175_36, e175_39, e175_42, e175_44, e175_45, e175_46, xKv, xK0, xKx, xKHv, xKH0, xk_none, xk_i, xk_f, xk_l, xk_r, xk_n, xc_i, xc_f, xc_l, xc_d, xc_r, xc_n, xo_some, List.map_cons, List.map_nil, List.sum_cons, List.sum_nil, xnzn, xpn0, xpn1, xpnb, xpnn, i10, i00, true_imp_iff, false_imp_iff, not_true_eq_false, not_false_eq_true, true_and, and_true, implies_true, xnz0, xnz1, xnzb, xfz0, xfz1, xfzb, Option.isSome_some, if_true, if_false, xbF, xbT, and_false, false_and, Nat.zero_le, Nat.reduceEqDiff, Nat.reduceLeDiff, Nat.reduceAdd, Nat.reduceSub, xiT, xiF, l10, h1, show (1 : Int32) + 0 = 1 from by decide]
    exact Iff.rfl
  · have ed : dgw k = 2 := if_neg q
    rw [ed]
    have h1' : (10 ≤ k) = True := eq_true (by omega)
    rw [h1'] at h1
    simp (disch := omega) only [e175_17, e175_19, e175_22, e175_23, e175_24, e175_27, e175_28, e175_29, e175_30, e175_31, e175_33, e175_34, e175_35, e175_36, e175_39, xKv, xK0, xKx, xKHv, xKH0, xk_none, xk_i, xk_f, xk_l, xk_r, xk_n, xc_i, xc_f, xc_l, xc_d, xc_r, xc_n, xo_some, List.map_cons, List.map_nil, List.sum_cons, List.sum_nil, xnzn, xpn0, xpn1, xpnb, xpnn, i10, i00, true_imp_iff, false_imp_iff, not_true_eq_false, not_false_eq_true, true_and, and_true, implies_true, xnz0, xnz1, xnzb, xfz0, xfz1, xfzb, Option.isSome_some, if_true, if_false, xbF, xbT, and_false, false_and, Nat.zero_le, Nat.reduceEqDiff, Nat.reduceLeDiff, Nat.reduceAdd, Nat.reduceSub, xiT, xiF, l10, h1, m10, a1]
    rw [e175_16]
    simp (disch := omega) only [e175_17, e175_19, e175_22, e175_23, e175_24, e175_27, e175_28, e175_29, e175_30, e175_31, e175_33, e175_34, e175_35, e175_36, e175_39, e175_42, e175_44, e175_45, e175_46, xKv, xK0, xKx, xKHv, xKH0, xk_none, xk_i, xk_f, xk_l, xk_r, xk_n, xc_i, xc_f, xc_l, xc_d, xc_r, xc_n, xo_some, List.map_cons, List.map_nil, List.sum_cons, List.sum_nil, xnzn, xpn0, xpn1, xpnb, xpnn, i10, i00, true_imp_iff, false_imp_iff, not_true_eq_false, not_false_eq_true, true_and, and_true, implies_true, xnz0, xnz1, xnzb, xfz0, xfz1, xfzb, Option.isSome_some, if_true, if_false, xbF, xbT, and_false, false_and, Nat.zero_le, Nat.reduceEqDiff, Nat.reduceLeDiff, Nat.reduceAdd, Nat.reduceSub, xiT, xiF, l11, h2, show (2 : Int32) + 0 = 2 from by decide]
    exact Iff.rfl
/-- the digits of a small number -/
def dgf (k n : Nat) (f : Nat → Int32) : Nat → Int32 := if k ≤ 9 then upd f n (nI (48 + k % 10)) else upd (upd f (n + 1) (nI (48 + k % 10))) n (nI (48 + k / 10))
theorem sp_gchars {k : Nat} (hk : k ≤ 20) {f : Nat → Int32} (hv : ah v = some (.inl (2, N, .inl f))) (hN : N < 100) (hn : n + dgw k ≤ N) (hX : R (.inl (some (.int (nI n)))) (xup ah v (.inl (2, N, .inl (dgf k n f))))) : xm κ 174 [.int (nI k), .int (nI (n + dgw k)), .ref v] ah R := by
  obtain ⟨h1, h2, h3, h4, h5⟩ := ngk ⟨k, by omega⟩
  dsimp only at h1 h2 h3 h4 h5
  have q1 := xai_of hv
  have i100 : vp_in (nI k) 100 = True := xin_nI (by omega) (by decide)
  have i100' : vp_in (nI k) 100 = True := i100
  have kc : (nI k).toNatClampNeg = k := nI_cl (by omega)
  rw [en174]
  simp (disch := omega) only [e174_0, e174_1, e174_3, e174_4, e174_7, e174_8, e174_11, e174_12, e174_14, e174_16, e174_19, e174_20, e174_21, xKv, xK0, xKx, xKHv, xKH0, xk_none, xk_i, xk_f, xk_l, xk_r, xk_n, xc_i, xc_f, xc_l, xc_d, xc_r, xc_n, xo_some, List.map_cons, List.map_nil, List.sum_cons, List.sum_nil, xnzn, xpn0, xpn1, xpnb, xpnn, i10, i00, true_imp_iff, false_imp_iff, not_true_eq_false, not_false_eq_true, true_and, and_true, implies_true, xnz0, xnz1, xnzb, xfz0, xfz1, xfzb, Option.isSome_some, if_true, if_false, xbF, xbT, and_false, false_and, Nat.zero_le, Nat.reduceEqDiff, Nat.reduceLeDiff, Nat.reduceAdd, Nat.reduceSub, xiT, xiF, pk_mul, nI_add, Nat.add_sub_cancel, lad0, leq0, lle0, lge0, llt0, lgt0, leq1, lle1, lge1, llt1, lgt1, lad1, lsu1, leq2, lle2, lge2, llt2, lgt2, lmu2, lmv2, lad2, lsu2, ldi2, leq3, lle3, lge3, llt3, lgt3, lmu3, lmv3, lad3, lsu3, ldi3, leq4, lle4, lge4, llt4, lgt4, lmu4, lmv4, lad4, lsu4, ldi4, leq5, lle5, lge5, llt5, lgt5, lmu5, lmv5, lad5, lsu5, ldi5, leq6, lle6, lge6, llt6, lgt6, lmu6, lmv6, lad6, lsu6, ldi6, leq8, lle8, lge8, llt8, lgt8, lmu8, lmv8, lad8, lsu8, ldi8, leq9, lle9, lge9, llt9, lgt9, lmu9, lmv9, lad9, lsu9, ldi9, leq10, lle10, lge10, llt10, lgt10, lmu10, lmv10, lad10, lsu10, ldi10, leq12, lle12, lge12, llt12, lgt12, lmu12, lmv12, lad12, lsu12, ldi12, leq20, lle20, lge20, llt20, lgt20, lmu20, lmv20, lad20, lsu20, ldi20, leq25, lle25, lge25, llt25, lgt25, lmu25, lmv25, lad25, lsu25, ldi25, leq30, lle30, lge30, llt30, lgt30, lmu30, lmv30, lad30, lsu30, ldi30, leq48, lle48, lge48, llt48, lgt48, lmu48, lmv48, lad48, lsu48, ldi48, leq50, lle50, lge50, llt50, lgt50, lmu50, lmv50, lad50, lsu50, ldi50, leq99, lle99, lge99, llt99, lgt99, lmu99, lmv99, lad99, lsu99, ldi99, leq100, lle100, lge100, llt100, lgt100, lmu100, lmv100, lad100, lsu100, ldi100, leq2000, lle2000, lge2000, llt2000, lgt2000, lmu2000, lmv2000, lad2000, lsu2000, ldi2000, leT]
  rw [e174_22]
  by_cases q : k ≤ 9
  · have ed : dgw k = 1 := if_pos q
    rw [ed] at hn ⊢
    have ef : dgf k n f = upd f n (nI (48 + k % 10)) := if_pos q
    rw [ef] at hX
    have e1 : nI (n + 1) + (-1) = nI n := by rw [ldec1 (by omega), Nat.add_sub_cancel]
    have b1 := vnb ⟨48 + k % 10, by omega⟩
    dsimp only at b1
    have q9 : (k ≤ 9) = True := eq_true q
    rw [q9] at h4
    simp (disch := omega) only [e174_23, e174_25, e174_28, e174_29, e174_31, e174_32, e174_33, e174_34, e174_36, e174_37, e174_38, e174_39, e174_41, e174_42, e174_43, e174_43n, e174_44, e174_47, e174_49, e174_52, e174_54, e174_55, e174_56, e174_56n, e174_57, e174_60, e174_62, e174_65, e174_67, e174_68, e174_69, e174_72, e174_72n, e174_73, e174_76, e174_78, e174_81, e174_82, e174_83, e174_84, e174_85, e174_86, e174_88, e174_91, e174_91n, e174_92, e174_95, e174_97, e174_100, e174_101, e174_102, e174_103, e174_104, e174_106, e174_109, e174_109n, e174_110, e174_113, e174_115, e174_117, e174_118, e174_120, xKv, xK0, xKx, xKHv, xKH0, xk_none, xk_i, xk_f, xk_l, xk_r, xk_n, xc_i, xc_f, xc_l, xc_d, xc_r, xc_n, xo_some, List.map_cons, List.map_nil, List.sum_cons, List.sum_nil, xnzn, xpn0, xpn1, xpnb, xpnn, i10, i00, true_imp_iff, false_imp_iff, not_true_eq_false, not_false_eq_true, true_and, and_true, implies_true, xnz0, xnz1, xnzb, xfz0, xfz1, xfzb, Option.isSome_some, if_true, if_false, xbF, xbT, and_false, false_and, Nat.zero_le, Nat.reduceEqDiff, Nat.reduceLeDiff, Nat.reduceAdd, Nat.reduceSub, xiT, xiF, h3, e1, h5, i100, kc, q1, xin_nI, nI_cl, b1, h4]
    exact hX
  · have ed : dgw k = 2 := if_neg q
    rw [ed] at hn ⊢
    have ef : dgf k n f = upd (upd f (n + 1) (nI (48 + k % 10))) n (nI (48 + k / 10)) := if_neg q
    rw [ef] at hX
    have e1 : nI (n + 2) + (-1) = nI (n + 1) := by rw [ldec1 (by omega)]; rfl
    have e2 : nI (n + 1) + (-1) = nI n := by rw [ldec1 (by omega), Nat.add_sub_cancel]
    have b1 := vnb ⟨48 + k % 10, by omega⟩
    have b2 := vnb ⟨48 + k / 10, by omega⟩
    dsimp only at b1 b2
    have q9 : (k ≤ 9) = False := eq_false q
    rw [q9] at h4
    have q2 : xai (xup ah v (.inl (2, N, .inl (upd f (n + 1) (nI (48 + k % 10)))))) v 2 = some (N, upd f (n + 1) (nI (48 + k % 10))) := xai_of (xup_self _ _ _)
    simp (disch := omega) only [e174_23, e174_25, e174_28, e174_29, e174_31, e174_32, e174_33, e174_34, e174_36, e174_37, e174_38, e174_39, e174_41, e174_42, e174_43, e174_43n, e174_44, e174_47, e174_49, e174_52, e174_54, e174_55, e174_56, e174_56n, e174_57, e174_60, e174_62, e174_65, e174_67, e174_68, e174_69, e174_72, e174_72n, e174_73, e174_76, e174_78, e174_81, e174_82, e174_83, e174_84, e174_85, e174_86, e174_88, e174_91, e174_91n, e174_92, e174_95, e174_97, e174_100, e174_101, e174_102, e174_103, e174_104, e174_106, e174_109, e174_109n, e174_110, e174_113, e174_115, e174_117, e174_118, e174_120, xKv, xK0, xKx, xKHv, xKH0, xk_none, xk_i, xk_f, xk_l, xk_r, xk_n, xc_i, xc_f, xc_l, xc_d, xc_r, xc_n, xo_some, List.map_cons, List.map_nil, List.sum_cons, List.sum_nil, xnzn, xpn0, xpn1, xpnb, xpnn, i10, i00, true_imp_iff, false_imp_iff, not_true_eq_false, not_false_eq_true, true_and, and_true, implies_true, xnz0, xnz1, xnzb, xfz0, xfz1, xfzb, Option.isSome_some, if_true, if_false, xbF, xbT, and_false, false_and, Nat.zero_le, Nat.reduceEqDiff, Nat.reduceLeDiff, Nat.reduceAdd, Nat.reduceSub, xiT, xiF, h3, e1, e2, h5, i100, kc, q1, q2, xin_nI, nI_cl, b1, b2, h4, xup_xup]
    exact hX
theorem sp_appI (h : BS h0 ah b v N n g) {k : Nat} (hk : k ≤ 20) (hn : n + dgw k ≤ 34) (hR : ∀ v' N' ah', BS h0 ah' b v' N' (n + dgw k) (fun j => if j < n then g j else dgt k (j - n)) → R (.inl (some (.ref b))) ah') : xm κ 158 [.ref b, .int (nI k)] ah R := by
  have hx0 : xis ah b 0 := ⟨_, h.1⟩
  have f3 : xfld ah b 0 3 = some (.int (nI n)) := xfld_of h.1
  have hdw : dgw k ≤ 2 := by unfold dgw; split <;> omega
  rw [en158, e158_0, e158_1, e158_2]
  refine ⟨⟨by decide, hx0, by decide, by decide⟩, ?_⟩
  rw [en164]
  simp (disch := omega) only [e164_0, e164_0n, e164_1, e164_4, e164_5, e164_6, e164_7, e164_10, e164_11, e164_12, e164_12n, e164_13, xKv, xK0, xKx, xKHv, xKH0, xk_none, xk_i, xk_f, xk_l, xk_r, xk_n, xc_i, xc_f, xc_l, xc_d, xc_r, xc_n, xo_some, List.map_cons, List.map_nil, List.sum_cons, List.sum_nil, xnzn, xpn0, xpn1, xpnb, xpnn, i10, i00, true_imp_iff, false_imp_iff, not_true_eq_false, not_false_eq_true, true_and, and_true, implies_true, xnz0, xnz1, xnzb, xfz0, xfz1, xfzb, Option.isSome_some, if_true, if_false, xbF, xbT, and_false, false_and, Nat.zero_le, Nat.reduceEqDiff, Nat.reduceLeDiff, Nat.reduceAdd, Nat.reduceSub, xiT, xiF, pk_mul, nI_add, Nat.add_sub_cancel, lad0, leq0, lle0, lge0, llt0, lgt0, leq1, lle1, lge1, llt1, lgt1, lad1, lsu1, leq2, lle2, lge2, llt2, lgt2, lmu2, lmv2, lad2, lsu2, ldi2, leq3, lle3, lge3, llt3, lgt3, lmu3, lmv3, lad3, lsu3, ldi3, leq4, lle4, lge4, llt4, lgt4, lmu4, lmv4, lad4, lsu4, ldi4, leq5, lle5, lge5, llt5, lgt5, lmu5, lmv5, lad5, lsu5, ldi5, leq6, lle6, lge6, llt6, lgt6, lmu6, lmv6, lad6, lsu6, ldi6, leq8, lle8, lge8, llt8, lgt8, lmu8, lmv8, lad8, lsu8, ldi8, leq9, lle9, lge9, llt9, lgt9, lmu9, lmv9, lad9, lsu9, ldi9, leq10, lle10, lge10, llt10, lgt10, lmu10, lmv10, lad10, lsu10, ldi10, leq12, lle12, lge12, llt12, lgt12, lmu12, lmv12, lad12, lsu12, ldi12, leq20, lle20, lge20, llt20, lgt20, lmu20, lmv20, lad20, lsu20, ldi20, leq25, lle25, lge25, llt25, lgt25, lmu25, lmv25, lad25, lsu25, ldi25, leq30, lle30, lge30, llt30, lgt30, lmu30, lmv30, lad30, lsu30, ldi30, leq48, lle48, lge48, llt48, lgt48, lmu48, lmv48, lad48, lsu48, ldi48, leq50, lle50, lge50, llt50, lgt50, lmu50, lmv50, lad50, lsu50, ldi50, leq99, lle99, lge99, llt99, lgt99, lmu99, lmv99, lad99, lsu99, ldi99, leq100, lle100, lge100, llt100, lgt100, lmu100, lmv100, lad100, lsu100, ldi100, leq2000, lle2000, lge2000, llt2000, lgt2000, lmu2000, lmv2000, lad2000, lsu2000, ldi2000, f3, sp_size' hk, nI_add]
  rw [e164_14]
  refine ⟨⟨by decide, hx0, by decide, by decide⟩, sp_ens h hn (fun v' N' ah' h' hN' => ?_)⟩
  obtain ⟨hb, ⟨f, hv, hf, hby⟩, hnN, hN, hbv, hb0, hv0, he⟩ := id h'
  have hx0' : xis ah' b 0 = True := xis_of hb
  have f0' : xfld ah' b 0 0 = some (.ref v') := xfld_of hb
  have f1' : xfld ah' b 0 1 = some (.int 0) := xfld_of hb
  show xW _ _ _ _
  simp (disch := omega) only [e164_17, e164_17n, e164_18, e164_21, e164_24, e164_25, e164_26, e164_26n, e164_27, xKv, xK0, xKx, xKHv, xKH0, xk_none, xk_i, xk_f, xk_l, xk_r, xk_n, xc_i, xc_f, xc_l, xc_d, xc_r, xc_n, xo_some, List.map_cons, List.map_nil, List.sum_cons, List.sum_nil, xnzn, xpn0, xpn1, xpnb, xpnn, i10, i00, true_imp_iff, false_imp_iff, not_true_eq_false, not_false_eq_true, true_and, and_true, implies_true, xnz0, xnz1, xnzb, xfz0, xfz1, xfzb, Option.isSome_some, if_true, if_false, xbF, xbT, and_false, false_and, Nat.zero_le, Nat.reduceEqDiff, Nat.reduceLeDiff, Nat.reduceAdd, Nat.reduceSub, xiT, xiF, pk_mul, nI_add, Nat.add_sub_cancel, lad0, leq0, lle0, lge0, llt0, lgt0, leq1, lle1, lge1, llt1, lgt1, lad1, lsu1, leq2, lle2, lge2, llt2, lgt2, lmu2, lmv2, lad2, lsu2, ldi2, leq3, lle3, lge3, llt3, lgt3, lmu3, lmv3, lad3, lsu3, ldi3, leq4, lle4, lge4, llt4, lgt4, lmu4, lmv4, lad4, lsu4, ldi4, leq5, lle5, lge5, llt5, lgt5, lmu5, lmv5, lad5, lsu5, ldi5, leq6, lle6, lge6, llt6, lgt6, lmu6, lmv6, lad6, lsu6, ldi6, leq8, lle8, lge8, llt8, lgt8, lmu8, lmv8, lad8, lsu8, ldi8, leq9, lle9, lge9, llt9, lgt9, lmu9, lmv9, lad9, lsu9, ldi9, leq10, lle10, lge10, llt10, lgt10, lmu10, lmv10, lad10, lsu10, ldi10, leq12, lle12, lge12, llt12, lgt12, lmu12, lmv12, lad12, lsu12, ldi12, leq20, lle20, lge20, llt20, lgt20, lmu20, lmv20, lad20, lsu20, ldi20, leq25, lle25, lge25, llt25, lgt25, lmu25, lmv25, lad25, lsu25, ldi25, leq30, lle30, lge30, llt30, lgt30, lmu30, lmv30, lad30, lsu30, ldi30, leq48, lle48, lge48, llt48, lgt48, lmu48, lmv48, lad48, lsu48, ldi48, leq50, lle50, lge50, llt50, lgt50, lmu50, lmv50, lad50, lsu50, ldi50, leq99, lle99, lge99, llt99, lgt99, lmu99, lmv99, lad99, lsu99, ldi99, leq100, lle100, lge100, llt100, lgt100, lmu100, lmv100, lad100, lsu100, ldi100, leq2000, lle2000, lge2000, llt2000, lgt2000, lmu2000, lmv2000, lad2000, lsu2000, ldi2000, hx0', en170, e170_0, e170_3, e170_6, e170_6n, e170_7, e170_10, e170_13, e170_14, e170_17, e170_18, f1', f0']
  rw [e164_30]
  refine ⟨⟨by decide, trivial⟩, sp_gchars hk hv (by omega) hN' ?_⟩
  have hb2 : xup ah' v' (.inl (2, N', .inl (dgf k n f))) b = some (.inr (0, [.ref v', .int 0, .int 0, .int (nI n)])) := by rw [xup_ne _ _ hbv]; exact hb
  have f3'' : (xfld (xup ah' v' (.inl (2, N', .inl (dgf k n f)))) b 0 3).isSome = true := by rw [xfld_of hb2]; rfl
  have e2 : xput (xup ah' v' (.inl (2, N', .inl (dgf k n f)))) b 3 (.int (nI (n + dgw k))) = xup (xup ah' v' (.inl (2, N', .inl (dgf k n f)))) b (.inr (0, [.ref v', .int 0, .int 0, .int (nI (n + dgw k))])) := xput_of hb2
  have hfin := h'.put (f' := dgf k n f) (m := n + dgw k) (g' := fun j => if j < n then g j else dgt k (j - n)) hN' (fun j hj => by
    unfold dgf
    by_cases q : k ≤ 9
    · have ed : dgw k = 1 := if_pos q
      rw [if_pos q]
      by_cases e : j = n
      · subst e
        rw [pk_us, if_neg (by omega)]
        unfold dgt
        rw [if_pos q]
      · rw [pk_un e, if_pos (by omega)]
        exact hf j (by omega)
    · have ed : dgw k = 2 := if_neg q
      rw [if_neg q]
      by_cases e : j = n
      · subst e
        rw [pk_us, if_neg (by omega)]
        unfold dgt
        rw [if_neg q, if_pos (by omega)]
      · rw [pk_un e]
        by_cases e2 : j = n + 1
        · subst e2
          rw [pk_us, if_neg (by omega)]
          unfold dgt
          rw [if_neg q, if_neg (by omega)]
        · rw [pk_un e2, if_pos (by omega)]
          exact hf j (by omega)) (by
    unfold dgf
    split
    · exact byf_u hby (by omega)
    · exact byf_u (byf_u hby (by omega)) (by omega))
  show xW _ _ _ _
  simp (disch := omega) only [e164_33, e164_33i, e164_33n, e164_34, e164_37, e164_38, e164_39, e164_40, e164_40n, e164_41, e164_47, e164_47i, e164_47n, e164_48, e164_48n, e164_49, e164_50, e164_53, e164_53n, e164_54, e164_54n, xKv, xK0, xKx, xKHv, xKH0, xk_none, xk_i, xk_f, xk_l, xk_r, xk_n, xc_i, xc_f, xc_l, xc_d, xc_r, xc_n, xo_some, List.map_cons, List.map_nil, List.sum_cons, List.sum_nil, xnzn, xpn0, xpn1, xpnb, xpnn, i10, i00, true_imp_iff, false_imp_iff, not_true_eq_false, not_false_eq_true, true_and, and_true, implies_true, xnz0, xnz1, xnzb, xfz0, xfz1, xfzb, Option.isSome_some, if_true, if_false, xbF, xbT, and_false, false_and, Nat.zero_le, Nat.reduceEqDiff, Nat.reduceLeDiff, Nat.reduceAdd, Nat.reduceSub, xiT, xiF, f3'', e2, e158_5, e158_5i, e158_5n, e158_6, e158_6n, e158_7, e158_7n]
  exact hR v' N' _ hfin
theorem sp_sblen (h : BS h0 ah b v N n g) : xm κ 162 [.ref b] ah R ↔ R (.inl (some (.int (nI n)))) ah := by
  have f3 : xfld ah b 0 3 = some (.int (nI n)) := xfld_of h.1
  have hx0 : xis ah b 0 = True := xis_of h.1
  simp (disch := omega) only [en162, e162_0, e162_0n, e162_1, e162_4, en171, e171_0, e171_0n, e171_1, e171_4, xKv, xK0, xKx, xKHv, xKH0, xk_none, xk_i, xk_f, xk_l, xk_r, xk_n, xc_i, xc_f, xc_l, xc_d, xc_r, xc_n, xo_some, List.map_cons, List.map_nil, List.sum_cons, List.sum_nil, xnzn, xpn0, xpn1, xpnb, xpnn, i10, i00, true_imp_iff, false_imp_iff, not_true_eq_false, not_false_eq_true, true_and, and_true, implies_true, xnz0, xnz1, xnzb, xfz0, xfz1, xfzb, Option.isSome_some, if_true, if_false, xbF, xbT, and_false, false_and, Nat.zero_le, Nat.reduceEqDiff, Nat.reduceLeDiff, Nat.reduceAdd, Nat.reduceSub, xiT, xiF, f3, hx0]
theorem sp_sbchar (h : BS h0 ah b v N n g) {j : Nat} (hj : j < n) (hg : g j < 128) : xm κ 160 [.ref b, .int (nI j)] ah R ↔ R (.inl (some (.int (nI (g j))))) ah := by
  obtain ⟨hb, ⟨f, hv, hf, hby⟩, hnN, hN, hbv, hb0, hv0, he⟩ := id h
  have hx0 : xis ah b 0 = True := xis_of hb
  have f0 : xfld ah b 0 0 = some (.ref v) := xfld_of hb
  have f1 : xfld ah b 0 1 = some (.int 0) := xfld_of hb
  have f3 : xfld ah b 0 3 = some (.int (nI n)) := xfld_of hb
  have fl := xalen_i hv (by decide)
  have eN : Int32.ofNat N = nI N := rfl
  have q1 := xai_of hv
  have em : (if nI N < nI n then nI N else nI n) = nI n := if_neg (nI_nlt hnN (by omega))
  have ec := (fby ⟨g j, hg⟩).2.2.2
  dsimp only at ec
  have xn := xnc (c := g j) (by omega)
  by_cases hz : κ 33 = 0
  · have e33 : xnv (κ 33) = .null := if_pos hz
    simp (disch := omega) only [en160, e160_0, e160_0n, e160_1, e160_2, e160_5, en166, e166_0, e166_0n, e166_1, e166_4, e166_5, e166_5n, e166_6, e166_9, e166_9n, e166_10, e166_10n, e166_11, e166_14, e166_14n, e166_15, e166_16, e166_17, e166_18, e166_21, e166_23, e166_24, e166_26, e166_29, e166_30, e166_33, e166_33n, e166_34, e166_35, e166_36, e166_39, e166_40, e166_41, e166_42, e166_42n, e166_43, e166_47, en148, e148_0, e148_1, e148_2, e148_5, e148_8, e148_8i, e148_8n, e148_9, en156, e156_0, e156_1, e156_4, e156_5, e156_6, e156_9, e156_9n, e156_10, e156_11, e156_16, e156_17, en156n, xKv, xK0, xKx, xKHv, xKH0, xk_none, xk_i, xk_f, xk_l, xk_r, xk_n, xc_i, xc_f, xc_l, xc_d, xc_r, xc_n, xo_some, List.map_cons, List.map_nil, List.sum_cons, List.sum_nil, xnzn, xpn0, xpn1, xpnb, xpnn, i10, i00, true_imp_iff, false_imp_iff, not_true_eq_false, not_false_eq_true, true_and, and_true, implies_true, xnz0, xnz1, xnzb, xfz0, xfz1, xfzb, Option.isSome_some, if_true, if_false, xbF, xbT, and_false, false_and, Nat.zero_le, Nat.reduceEqDiff, Nat.reduceLeDiff, Nat.reduceAdd, Nat.reduceSub, xiT, xiF, pk_mul, nI_add, Nat.add_sub_cancel, lad0, leq0, lle0, lge0, llt0, lgt0, leq1, lle1, lge1, llt1, lgt1, lad1, lsu1, leq2, lle2, lge2, llt2, lgt2, lmu2, lmv2, lad2, lsu2, ldi2, leq3, lle3, lge3, llt3, lgt3, lmu3, lmv3, lad3, lsu3, ldi3, leq4, lle4, lge4, llt4, lgt4, lmu4, lmv4, lad4, lsu4, ldi4, leq5, lle5, lge5, llt5, lgt5, lmu5, lmv5, lad5, lsu5, ldi5, leq6, lle6, lge6, llt6, lgt6, lmu6, lmv6, lad6, lsu6, ldi6, leq8, lle8, lge8, llt8, lgt8, lmu8, lmv8, lad8, lsu8, ldi8, leq9, lle9, lge9, llt9, lgt9, lmu9, lmv9, lad9, lsu9, ldi9, leq10, lle10, lge10, llt10, lgt10, lmu10, lmv10, lad10, lsu10, ldi10, leq12, lle12, lge12, llt12, lgt12, lmu12, lmv12, lad12, lsu12, ldi12, leq20, lle20, lge20, llt20, lgt20, lmu20, lmv20, lad20, lsu20, ldi20, leq25, lle25, lge25, llt25, lgt25, lmu25, lmv25, lad25, lsu25, ldi25, leq30, lle30, lge30, llt30, lgt30, lmu30, lmv30, lad30, lsu30, ldi30, leq48, lle48, lge48, llt48, lgt48, lmu48, lmv48, lad48, lsu48, ldi48, leq50, lle50, lge50, llt50, lgt50, lmu50, lmv50, lad50, lsu50, ldi50, leq99, lle99, lge99, llt99, lgt99, lmu99, lmv99, lad99, lsu99, ldi99, leq100, lle100, lge100, llt100, lgt100, lmu100, lmv100, lad100, lsu100, ldi100, leq2000, lle2000, lge2000, llt2000, lgt2000, lmu2000, lmv2000, lad2000, lsu2000, ldi2000, hx0, f0, f1, f3, fl, eN, shr0', em, xlt, ltT, ltF, q1, xin_nI, nI_cl, hf j hj, ec, xn, e33]
  · have e33 : xnv (κ 33) = .ref (κ 33 - 1) := if_neg hz
    simp (disch := omega) only [en160, e160_0, e160_0n, e160_1, e160_2, e160_5, en166, e166_0, e166_0n, e166_1, e166_4, e166_5, e166_5n, e166_6, e166_9, e166_9n, e166_10, e166_10n, e166_11, e166_14, e166_14n, e166_15, e166_16, e166_17, e166_18, e166_21, e166_23, e166_24, e166_26, e166_29, e166_30, e166_33, e166_33n, e166_34, e166_35, e166_36, e166_39, e166_40, e166_41, e166_42, e166_42n, e166_43, e166_47, en148, e148_0, e148_1, e148_2, e148_5, e148_8, e148_8i, e148_8n, e148_9, en156, e156_0, e156_1, e156_4, e156_5, e156_6, e156_9, e156_9n, e156_10, e156_11, e156_16, e156_17, xKv, xK0, xKx, xKHv, xKH0, xk_none, xk_i, xk_f, xk_l, xk_r, xk_n, xc_i, xc_f, xc_l, xc_d, xc_r, xc_n, xo_some, List.map_cons, List.map_nil, List.sum_cons, List.sum_nil, xnzn, xpn0, xpn1, xpnb, xpnn, i10, i00, true_imp_iff, false_imp_iff, not_true_eq_false, not_false_eq_true, true_and, and_true, implies_true, xnz0, xnz1, xnzb, xfz0, xfz1, xfzb, Option.isSome_some, if_true, if_false, xbF, xbT, and_false, false_and, Nat.zero_le, Nat.reduceEqDiff, Nat.reduceLeDiff, Nat.reduceAdd, Nat.reduceSub, xiT, xiF, pk_mul, nI_add, Nat.add_sub_cancel, lad0, leq0, lle0, lge0, llt0, lgt0, leq1, lle1, lge1, llt1, lgt1, lad1, lsu1, leq2, lle2, lge2, llt2, lgt2, lmu2, lmv2, lad2, lsu2, ldi2, leq3, lle3, lge3, llt3, lgt3, lmu3, lmv3, lad3, lsu3, ldi3, leq4, lle4, lge4, llt4, lgt4, lmu4, lmv4, lad4, lsu4, ldi4, leq5, lle5, lge5, llt5, lgt5, lmu5, lmv5, lad5, lsu5, ldi5, leq6, lle6, lge6, llt6, lgt6, lmu6, lmv6, lad6, lsu6, ldi6, leq8, lle8, lge8, llt8, lgt8, lmu8, lmv8, lad8, lsu8, ldi8, leq9, lle9, lge9, llt9, lgt9, lmu9, lmv9, lad9, lsu9, ldi9, leq10, lle10, lge10, llt10, lgt10, lmu10, lmv10, lad10, lsu10, ldi10, leq12, lle12, lge12, llt12, lgt12, lmu12, lmv12, lad12, lsu12, ldi12, leq20, lle20, lge20, llt20, lgt20, lmu20, lmv20, lad20, lsu20, ldi20, leq25, lle25, lge25, llt25, lgt25, lmu25, lmv25, lad25, lsu25, ldi25, leq30, lle30, lge30, llt30, lgt30, lmu30, lmv30, lad30, lsu30, ldi30, leq48, lle48, lge48, llt48, lgt48, lmu48, lmv48, lad48, lsu48, ldi48, leq50, lle50, lge50, llt50, lgt50, lmu50, lmv50, lad50, lsu50, ldi50, leq99, lle99, lge99, llt99, lgt99, lmu99, lmv99, lad99, lsu99, ldi99, leq100, lle100, lge100, llt100, lgt100, lmu100, lmv100, lad100, lsu100, ldi100, leq2000, lle2000, lge2000, llt2000, lgt2000, lmu2000, lmv2000, lad2000, lsu2000, ldi2000, hx0, f0, f1, f3, fl, eN, shr0', em, xlt, ltT, ltF, q1, xin_nI, nI_cl, hf j hj, ec, xn, e33]
end
