/-! StringBuilder: append(int), charAt -/
theorem ngk : ∀ k : Fin 21, (-(nI k.1) ≤ (-10 : Int32)) = (10 ≤ k.1) ∧ (-(nI k.1) ≤ (-100 : Int32)) = False ∧ ((-100 : Int32) < -(nI k.1)) = True ∧ ((-9 : Int32) ≤ -(nI k.1)) = (k.1 ≤ 9) ∧ -(-(nI k.1)) = nI k.1 := by
  intro k
  have h : ∀ k : Fin 21, ((-(nI k.1) ≤ (-10 : Int32)) ↔ (10 ≤ k.1)) ∧ ¬ (-(nI k.1) ≤ (-100 : Int32)) ∧ ((-100 : Int32) < -(nI k.1)) ∧ (((-9 : Int32) ≤ -(nI k.1)) ↔ (k.1 ≤ 9)) ∧ -(-(nI k.1)) = nI k.1 := by decide +kernel
  obtain ⟨h1, h2, h3, h4, h5⟩ := h k
  exact ⟨propext h1, eq_false h2, eq_true h3, propext h4, h5⟩
theorem vnb : ∀ c : Fin 128, vp_nar .byte (Int32.ofNat c.1) = nI c.1 := by decide +kernel
section
variable {κ : Nat → Nat} {R : xR → xH → Prop} {h0 ah : xH} {b v N n : Nat} {g : Nat → Nat}
theorem sp_size' {k : Nat} (hk : k ≤ 20) : xm κ 118 [.int (nI k)] ah R ↔ R (.inl (some (.int (nI (dgw k))))) ah := by
  obtain ⟨h1, h2, h3, h4, h5⟩ := ngk ⟨k, by omega⟩
  dsimp only at h1 h2 h3 h4 h5
  rw [en118]
  simp (disch := omega) only [e118_0, e118_1, e118_2, e118_3, e118_6, e118_7, e118_8, e118_9, e118_10, e118_11, e118_13, e118_14, e118_15, xKv, xK0, xKx, xKHv, xKH0, xk_none, xk_i, xk_f, xk_l, xk_r, xk_n, xc_i, xc_f, xc_l, xc_d, xc_r, xc_n, xo_some, List.map_cons, List.map_nil, List.sum_cons, List.sum_nil, xnzn, xpn0, xpn1, xpnb, xpnn, i10, i00, true_imp_iff, false_imp_iff, not_true_eq_false, not_false_eq_true, true_and, and_true, implies_true, xnz0, xnz1, xnzb, xfz0, xfz1, xfzb, Option.isSome_some, if_true, if_false, xbF, xbT, and_false, false_and, Nat.zero_le, Nat.reduceEqDiff, Nat.reduceLeDiff, Nat.reduceAdd, Nat.reduceSub, xiT, xiF, pk_mul, nI_add, Nat.add_sub_cancel, lad0, leq0, lle0, lge0, llt0, lgt0, leq1, lle1, lge1, llt1, lgt1, lad1, lsu1, leq2, lle2, lge2, llt2, lgt2, lmu2, lmv2, lad2, lsu2, ldi2, leq3, lle3, lge3, llt3, lgt3, lmu3, lmv3, lad3, lsu3, ldi3, leq4, lle4, lge4, llt4, lgt4, lmu4, lmv4, lad4, lsu4, ldi4, leq5, lle5, lge5, llt5, lgt5, lmu5, lmv5, lad5, lsu5, ldi5, leq6, lle6, lge6, llt6, lgt6, lmu6, lmv6, lad6, lsu6, ldi6, leq8, lle8, lge8, llt8, lgt8, lmu8, lmv8, lad8, lsu8, ldi8, leq9, lle9, lge9, llt9, lgt9, lmu9, lmv9, lad9, lsu9, ldi9, leq10, lle10, lge10, llt10, lgt10, lmu10, lmv10, lad10, lsu10, ldi10, leq12, lle12, lge12, llt12, lgt12, lmu12, lmv12, lad12, lsu12, ldi12, leq20, lle20, lge20, llt20, lgt20, lmu20, lmv20, lad20, lsu20, ldi20, leq25, lle25, lge25, llt25, lgt25, lmu25, lmv25, lad25, lsu25, ldi25, leq30, lle30, lge30, llt30, lgt30, lmu30, lmv30, lad30, lsu30, ldi30, leq48, lle48, lge48, llt48, lgt48, lmu48, lmv48, lad48, lsu48, ldi48, leq50, lle50, lge50, llt50, lgt50, lmu50, lmv50, lad50, lsu50, ldi50, leq99, lle99, lge99, llt99, lgt99, lmu99, lmv99, lad99, lsu99, ldi99, leq100, lle100, lge100, llt100, lgt100, lmu100, lmv100, lad100, lsu100, ldi100, leq2000, lle2000, lge2000, llt2000, lgt2000, lmu2000, lmv2000, lad2000, lsu2000, ldi2000, ltF]
  have l10 : ((10 : Int32) ≤ 1) = False := by decide
  have l11 : ((10 : Int32) ≤ 2) = False := by decide
  have m10 : (10 : Int32) * -10 = -100 := by decide
  have a1 : (1 : Int32) + 1 = 2 := by decide
  rw [e118_16]
  by_cases q : k ≤ 9
  · have ed : dgw k = 1 := if_pos q
    rw [ed]
    have h1' : (10 ≤ k) = False := eq_false (by omega)
    rw [h1'] at h1
    simp (disch := omega) only [e118_17, e118_19, e118_22, e118_23, e118_24, e118_27, e118_28, e118_29, e118_30, e118_31, e118_33, e118_34, e118_35, e118_36, e118_39, e118_42, e118_44, e118_45, e118_46, xKv, xK0, xKx, xKHv, xKH0, xk_none, xk_i, xk_f, xk_l, xk_r, xk_n, xc_i, xc_f, xc_l, xc_d, xc_r, xc_n, xo_some, List.map_cons, List.map_nil, List.sum_cons, List.sum_nil, xnzn, xpn0, xpn1, xpnb, xpnn, i10, i00, true_imp_iff, false_imp_iff, not_true_eq_false, not_false_eq_true, true_and, and_true, implies_true, xnz0, xnz1, xnzb, xfz0, xfz1, xfzb, Option.isSome_some, if_true, if_false, xbF, xbT, and_false, false_and, Nat.zero_le, Nat.reduceEqDiff, Nat.reduceLeDiff, Nat.reduceAdd, Nat.reduceSub, xiT, xiF, l10, h1, show (1 : Int32) + 0 = 1 from by decide]
    exact Iff.rfl
  · have ed : dgw k = 2 := if_neg q
    rw [ed]
    have h1' : (10 ≤ k) = True := eq_true (by omega)
    rw [h1'] at h1
    simp (disch := omega) only [e118_17, e118_19, e118_22, e118_23, e118_24, e118_27, e118_28, e118_29, e118_30, e118_31, e118_33, e118_34, e118_35, e118_36, e118_39, xKv, xK0, xKx, xKHv, xKH0, xk_none, xk_i, xk_f, xk_l, xk_r, xk_n, xc_i, xc_f, xc_l, xc_d, xc_r, xc_n, xo_some, List.map_cons, List.map_nil, List.sum_cons, List.sum_nil, xnzn, xpn0, xpn1, xpnb, xpnn, i10, i00, true_imp_iff, false_imp_iff, not_true_eq_false, not_false_eq_true, true_and, and_true, implies_true, xnz0, xnz1, xnzb, xfz0, xfz1, xfzb, Option.isSome_some, if_true, if_false, xbF, xbT, and_false, false_and, Nat.zero_le, Nat.reduceEqDiff, Nat.reduceLeDiff, Nat.reduceAdd, Nat.reduceSub, xiT, xiF, l10, h1, m10, a1]
    rw [e118_16]
    simp (disch := omega) only [e118_17, e118_19, e118_22, e118_23, e118_24, e118_27, e118_28, e118_29, e118_30, e118_31, e118_33, e118_34, e118_35, e118_36, e118_39, e118_42, e118_44, e118_45, e118_46, xKv, xK0, xKx, xKHv, xKH0, xk_none, xk_i, xk_f, xk_l, xk_r, xk_n, xc_i, xc_f, xc_l, xc_d, xc_r, xc_n, xo_some, List.map_cons, List.map_nil, List.sum_cons, List.sum_nil, xnzn, xpn0, xpn1, xpnb, xpnn, i10, i00, true_imp_iff, false_imp_iff, not_true_eq_false, not_false_eq_true, true_and, and_true, implies_true, xnz0, xnz1, xnzb, xfz0, xfz1, xfzb, Option.isSome_some, if_true, if_false, xbF, xbT, and_false, false_and, Nat.zero_le, Nat.reduceEqDiff, Nat.reduceLeDiff, Nat.reduceAdd, Nat.reduceSub, xiT, xiF, l11, h2, show (2 : Int32) + 0 = 2 from by decide]
    exact Iff.rfl
def dgf (k n : Nat) (f : Nat → Int32) : Nat → Int32 := if k ≤ 9 then upd f n (nI (48 + k % 10)) else upd (upd f (n + 1) (nI (48 + k % 10))) n (nI (48 + k / 10))
theorem sp_gchars {k : Nat} (hk : k ≤ 20) {f : Nat → Int32} (hv : ah v = some (.inl (2, N, .inl f))) (hN : N < 100) (hn : n + dgw k ≤ N) (hX : R (.inl (some (.int (nI n)))) (xup ah v (.inl (2, N, .inl (dgf k n f))))) : xm κ 117 [.int (nI k), .int (nI (n + dgw k)), .ref v] ah R := by
  obtain ⟨h1, h2, h3, h4, h5⟩ := ngk ⟨k, by omega⟩
  dsimp only at h1 h2 h3 h4 h5
  have q1 := xai_of hv
  have i100 : vp_in (nI k) 100 = True := xin_nI (by omega) (by decide)
  have i100' : vp_in (nI k) 100 = True := i100
  have kc : (nI k).toNatClampNeg = k := nI_cl (by omega)
  rw [en117]
  simp (disch := omega) only [e117_0, e117_1, e117_3, e117_4, e117_7, e117_8, e117_11, e117_12, e117_14, e117_16, e117_19, e117_20, e117_21, xKv, xK0, xKx, xKHv, xKH0, xk_none, xk_i, xk_f, xk_l, xk_r, xk_n, xc_i, xc_f, xc_l, xc_d, xc_r, xc_n, xo_some, List.map_cons, List.map_nil, List.sum_cons, List.sum_nil, xnzn, xpn0, xpn1, xpnb, xpnn, i10, i00, true_imp_iff, false_imp_iff, not_true_eq_false, not_false_eq_true, true_and, and_true, implies_true, xnz0, xnz1, xnzb, xfz0, xfz1, xfzb, Option.isSome_some, if_true, if_false, xbF, xbT, and_false, false_and, Nat.zero_le, Nat.reduceEqDiff, Nat.reduceLeDiff, Nat.reduceAdd, Nat.reduceSub, xiT, xiF, pk_mul, nI_add, Nat.add_sub_cancel, lad0, leq0, lle0, lge0, llt0, lgt0, leq1, lle1, lge1, llt1, lgt1, lad1, lsu1, leq2, lle2, lge2, llt2, lgt2, lmu2, lmv2, lad2, lsu2, ldi2, leq3, lle3, lge3, llt3, lgt3, lmu3, lmv3, lad3, lsu3, ldi3, leq4, lle4, lge4, llt4, lgt4, lmu4, lmv4, lad4, lsu4, ldi4, leq5, lle5, lge5, llt5, lgt5, lmu5, lmv5, lad5, lsu5, ldi5, leq6, lle6, lge6, llt6, lgt6, lmu6, lmv6, lad6, lsu6, ldi6, leq8, lle8, lge8, llt8, lgt8, lmu8, lmv8, lad8, lsu8, ldi8, leq9, lle9, lge9, llt9, lgt9, lmu9, lmv9, lad9, lsu9, ldi9, leq10, lle10, lge10, llt10, lgt10, lmu10, lmv10, lad10, lsu10, ldi10, leq12, lle12, lge12, llt12, lgt12, lmu12, lmv12, lad12, lsu12, ldi12, leq20, lle20, lge20, llt20, lgt20, lmu20, lmv20, lad20, lsu20, ldi20, leq25, lle25, lge25, llt25, lgt25, lmu25, lmv25, lad25, lsu25, ldi25, leq30, lle30, lge30, llt30, lgt30, lmu30, lmv30, lad30, lsu30, ldi30, leq48, lle48, lge48, llt48, lgt48, lmu48, lmv48, lad48, lsu48, ldi48, leq50, lle50, lge50, llt50, lgt50, lmu50, lmv50, lad50, lsu50, ldi50, leq99, lle99, lge99, llt99, lgt99, lmu99, lmv99, lad99, lsu99, ldi99, leq100, lle100, lge100, llt100, lgt100, lmu100, lmv100, lad100, lsu100, ldi100, leq2000, lle2000, lge2000, llt2000, lgt2000, lmu2000, lmv2000, lad2000, lsu2000, ldi2000, leT]
  rw [e117_22]
  by_cases q : k ≤ 9
  · have ed : dgw k = 1 := if_pos q
    rw [ed] at hn ⊢
    have ef : dgf k n f = upd f n (nI (48 + k % 10)) := if_pos q
    rw [ef] at hX
    have e1 : nI (n + 1) + (-1) = nI n := by rw [ldec1 (by omega), Nat.add_sub_cancel]
    have b1 := vnb ⟨48 + k % 10, by omega⟩
    dsimp only at b1
    have q9 : (k ≤ 9) = True := eq_true q
    rw [q9] at h4
    simp (disch := omega) only [e117_23, e117_25, e117_28, e117_29, e117_31, e117_32, e117_33, e117_34, e117_36, e117_37, e117_38, e117_39, e117_41, e117_42, e117_43, e117_43n, e117_44, e117_47, e117_49, e117_52, e117_54, e117_55, e117_56, e117_56n, e117_57, e117_60, e117_62, e117_65, e117_67, e117_68, e117_69, e117_72, e117_72n, e117_73, e117_76, e117_78, e117_81, e117_82, e117_83, e117_84, e117_85, e117_86, e117_88, e117_91, e117_91n, e117_92, e117_95, e117_97, e117_100, e117_101, e117_102, e117_103, e117_104, e117_106, e117_109, e117_109n, e117_110, e117_113, e117_115, e117_117, e117_118, e117_120, xKv, xK0, xKx, xKHv, xKH0, xk_none, xk_i, xk_f, xk_l, xk_r, xk_n, xc_i, xc_f, xc_l, xc_d, xc_r, xc_n, xo_some, List.map_cons, List.map_nil, List.sum_cons, List.sum_nil, xnzn, xpn0, xpn1, xpnb, xpnn, i10, i00, true_imp_iff, false_imp_iff, not_true_eq_false, not_false_eq_true, true_and, and_true, implies_true, xnz0, xnz1, xnzb, xfz0, xfz1, xfzb, Option.isSome_some, if_true, if_false, xbF, xbT, and_false, false_and, Nat.zero_le, Nat.reduceEqDiff, Nat.reduceLeDiff, Nat.reduceAdd, Nat.reduceSub, xiT, xiF, h3, e1, h5, i100, kc, q1, xin_nI, nI_cl, b1, h4]
    exact hX
  · have ed : dgw k = 2 := if_neg q
    rw [ed] at hn ⊢
    have ef : dgf k n f = upd (upd f (n + 1) (nI (48 + k % 10))) n (nI (48 + k / 10)) := if_neg q
    rw [ef] at hX
    have e1 : nI (n + 2) + (-1) = nI (n + 1) := by rw [ldec1 (by omega)]; rfl
    have e2 : nI (n + 1) + (-1) = nI n := by rw [ldec1 (by omega), Nat.add_sub_cancel]
    have b1 := vnb ⟨48 + k % 10, by omega⟩
    have b2 := vnb ⟨48 + k / 10, by omega⟩
    dsimp only at b1 b2
    have q9 : (k ≤ 9) = False := eq_false q
    rw [q9] at h4
    have q2 : xai (xup ah v (.inl (2, N, .inl (upd f (n + 1) (nI (48 + k % 10)))))) v 2 = some (N, upd f (n + 1) (nI (48 + k % 10))) := xai_of (xup_self _ _ _)
    simp (disch := omega) only [e117_23, e117_25, e117_28, e117_29, e117_31, e117_32, e117_33, e117_34, e117_36, e117_37, e117_38, e117_39, e117_41, e117_42, e117_43, e117_43n, e117_44, e117_47, e117_49, e117_52, e117_54, e117_55, e117_56, e117_56n, e117_57, e117_60, e117_62, e117_65, e117_67, e117_68, e117_69, e117_72, e117_72n, e117_73, e117_76, e117_78, e117_81, e117_82, e117_83, e117_84, e117_85, e117_86, e117_88, e117_91, e117_91n, e117_92, e117_95, e117_97, e117_100, e117_101, e117_102, e117_103, e117_104, e117_106, e117_109, e117_109n, e117_110, e117_113, e117_115, e117_117, e117_118, e117_120, xKv, xK0, xKx, xKHv, xKH0, xk_none, xk_i, xk_f, xk_l, xk_r, xk_n, xc_i, xc_f, xc_l, xc_d, xc_r, xc_n, xo_some, List.map_cons, List.map_nil, List.sum_cons, List.sum_nil, xnzn, xpn0, xpn1, xpnb, xpnn, i10, i00, true_imp_iff, false_imp_iff, not_true_eq_false, not_false_eq_true, true_and, and_true, implies_true, xnz0, xnz1, xnzb, xfz0, xfz1, xfzb, Option.isSome_some, if_true, if_false, xbF, xbT, and_false, false_and, Nat.zero_le, Nat.reduceEqDiff, Nat.reduceLeDiff, Nat.reduceAdd, Nat.reduceSub, xiT, xiF, h3, e1, e2, h5, i100, kc, q1, q2, xin_nI, nI_cl, b1, b2, h4, xup_xup]
    exact hX
theorem sp_appI (h : BS h0 ah b v N n g) {k : Nat} (hk : k ≤ 20) (hn : n + dgw k ≤ 34) (hR : ∀ v' N' ah', BS h0 ah' b v' N' (n + dgw k) (fun j => if j < n then g j else dgt k (j - n)) → R (.inl (some (.ref b))) ah') : xm κ 101 [.ref b, .int (nI k)] ah R := by
  have hx0 : xis ah b 0 := ⟨_, h.1⟩
  have f3 : xfld ah b 0 3 = some (.int (nI n)) := xfld_of h.1
  have hdw : dgw k ≤ 2 := by unfold dgw; split <;> omega
  rw [en101, e101_0, e101_1, e101_2]
  refine ⟨⟨by decide, hx0, by decide, by decide⟩, ?_⟩
  rw [en107]
  simp (disch := omega) only [e107_0, e107_0n, e107_1, e107_4, e107_5, e107_6, e107_7, e107_10, e107_11, e107_12, e107_12n, e107_13, xKv, xK0, xKx, xKHv, xKH0, xk_none, xk_i, xk_f, xk_l, xk_r, xk_n, xc_i, xc_f, xc_l, xc_d, xc_r, xc_n, xo_some, List.map_cons, List.map_nil, List.sum_cons, List.sum_nil, xnzn, xpn0, xpn1, xpnb, xpnn, i10, i00, true_imp_iff, false_imp_iff, not_true_eq_false, not_false_eq_true, true_and, and_true, implies_true, xnz0, xnz1, xnzb, xfz0, xfz1, xfzb, Option.isSome_some, if_true, if_false, xbF, xbT, and_false, false_and, Nat.zero_le, Nat.reduceEqDiff, Nat.reduceLeDiff, Nat.reduceAdd, Nat.reduceSub, xiT, xiF, pk_mul, nI_add, Nat.add_sub_cancel, lad0, leq0, lle0, lge0, llt0, lgt0, leq1, lle1, lge1, llt1, lgt1, lad1, lsu1, leq2, lle2, lge2, llt2, lgt2, lmu2, lmv2, lad2, lsu2, ldi2, leq3, lle3, lge3, llt3, lgt3, lmu3, lmv3, lad3, lsu3, ldi3, leq4, lle4, lge4, llt4, lgt4, lmu4, lmv4, lad4, lsu4, ldi4, leq5, lle5, lge5, llt5, lgt5, lmu5, lmv5, lad5, lsu5, ldi5, leq6, lle6, lge6, llt6, lgt6, lmu6, lmv6, lad6, lsu6, ldi6, leq8, lle8, lge8, llt8, lgt8, lmu8, lmv8, lad8, lsu8, ldi8, leq9, lle9, lge9, llt9, lgt9, lmu9, lmv9, lad9, lsu9, ldi9, leq10, lle10, lge10, llt10, lgt10, lmu10, lmv10, lad10, lsu10, ldi10, leq12, lle12, lge12, llt12, lgt12, lmu12, lmv12, lad12, lsu12, ldi12, leq20, lle20, lge20, llt20, lgt20, lmu20, lmv20, lad20, lsu20, ldi20, leq25, lle25, lge25, llt25, lgt25, lmu25, lmv25, lad25, lsu25, ldi25, leq30, lle30, lge30, llt30, lgt30, lmu30, lmv30, lad30, lsu30, ldi30, leq48, lle48, lge48, llt48, lgt48, lmu48, lmv48, lad48, lsu48, ldi48, leq50, lle50, lge50, llt50, lgt50, lmu50, lmv50, lad50, lsu50, ldi50, leq99, lle99, lge99, llt99, lgt99, lmu99, lmv99, lad99, lsu99, ldi99, leq100, lle100, lge100, llt100, lgt100, lmu100, lmv100, lad100, lsu100, ldi100, leq2000, lle2000, lge2000, llt2000, lgt2000, lmu2000, lmv2000, lad2000, lsu2000, ldi2000, f3, sp_size' hk, nI_add]
  rw [e107_14]
  refine ⟨⟨by decide, hx0, by decide, by decide⟩, sp_ens h hn (fun v' N' ah' h' hN' => ?_)⟩
  obtain ⟨hb, ⟨f, hv, hf, hby⟩, hnN, hN, hbv, hb0, hv0, he⟩ := id h'
  have hx0' : xis ah' b 0 = True := xis_of hb
  have f0' : xfld ah' b 0 0 = some (.ref v') := xfld_of hb
  have f1' : xfld ah' b 0 1 = some (.int 0) := xfld_of hb
  show xW _ _ _ _
  simp (disch := omega) only [e107_17, e107_17n, e107_18, e107_21, e107_24, e107_25, e107_26, e107_26n, e107_27, xKv, xK0, xKx, xKHv, xKH0, xk_none, xk_i, xk_f, xk_l, xk_r, xk_n, xc_i, xc_f, xc_l, xc_d, xc_r, xc_n, xo_some, List.map_cons, List.map_nil, List.sum_cons, List.sum_nil, xnzn, xpn0, xpn1, xpnb, xpnn, i10, i00, true_imp_iff, false_imp_iff, not_true_eq_false, not_false_eq_true, true_and, and_true, implies_true, xnz0, xnz1, xnzb, xfz0, xfz1, xfzb, Option.isSome_some, if_true, if_false, xbF, xbT, and_false, false_and, Nat.zero_le, Nat.reduceEqDiff, Nat.reduceLeDiff, Nat.reduceAdd, Nat.reduceSub, xiT, xiF, pk_mul, nI_add, Nat.add_sub_cancel, lad0, leq0, lle0, lge0, llt0, lgt0, leq1, lle1, lge1, llt1, lgt1, lad1, lsu1, leq2, lle2, lge2, llt2, lgt2, lmu2, lmv2, lad2, lsu2, ldi2, leq3, lle3, lge3, llt3, lgt3, lmu3, lmv3, lad3, lsu3, ldi3, leq4, lle4, lge4, llt4, lgt4, lmu4, lmv4, lad4, lsu4, ldi4, leq5, lle5, lge5, llt5, lgt5, lmu5, lmv5, lad5, lsu5, ldi5, leq6, lle6, lge6, llt6, lgt6, lmu6, lmv6, lad6, lsu6, ldi6, leq8, lle8, lge8, llt8, lgt8, lmu8, lmv8, lad8, lsu8, ldi8, leq9, lle9, lge9, llt9, lgt9, lmu9, lmv9, lad9, lsu9, ldi9, leq10, lle10, lge10, llt10, lgt10, lmu10, lmv10, lad10, lsu10, ldi10, leq12, lle12, lge12, llt12, lgt12, lmu12, lmv12, lad12, lsu12, ldi12, leq20, lle20, lge20, llt20, lgt20, lmu20, lmv20, lad20, lsu20, ldi20, leq25, lle25, lge25, llt25, lgt25, lmu25, lmv25, lad25, lsu25, ldi25, leq30, lle30, lge30, llt30, lgt30, lmu30, lmv30, lad30, lsu30, ldi30, leq48, lle48, lge48, llt48, lgt48, lmu48, lmv48, lad48, lsu48, ldi48, leq50, lle50, lge50, llt50, lgt50, lmu50, lmv50, lad50, lsu50, ldi50, leq99, lle99, lge99, llt99, lgt99, lmu99, lmv99, lad99, lsu99, ldi99, leq100, lle100, lge100, llt100, lgt100, lmu100, lmv100, lad100, lsu100, ldi100, leq2000, lle2000, lge2000, llt2000, lgt2000, lmu2000, lmv2000, lad2000, lsu2000, ldi2000, hx0', en113, e113_0, e113_3, e113_6, e113_6n, e113_7, e113_10, e113_13, e113_14, e113_17, e113_18, f1', f0']
  rw [e107_30]
  refine ⟨⟨by decide, trivial⟩, sp_gchars hk hv (by omega) hN' ?_⟩
  have hb2 : xup ah' v' (.inl (2, N', .inl (dgf k n f))) b = some (.inr (0, [.ref v', .int 0, .int 0, .int (nI n)])) := by rw [xup_ne _ _ hbv]; exact hb
  have f3'' : (xfld (xup ah' v' (.inl (2, N', .inl (dgf k n f)))) b 0 3).isSome = true := by rw [xfld_of hb2]; rfl
  have e2 : xput (xup ah' v' (.inl (2, N', .inl (dgf k n f)))) b 3 (.int (nI (n + dgw k))) = xup (xup ah' v' (.inl (2, N', .inl (dgf k n f)))) b (.inr (0, [.ref v', .int 0, .int 0, .int (nI (n + dgw k))])) := xput_of hb2
  have hfin := h'.put (f' := dgf k n f) (m := n + dgw k) (g' := fun j => if j < n then g j else dgt k (j - n)) hN' (fun j hj => by
    unfold dgf
    by_cases q : k ≤ 9
    · have ed : dgw k = 1 := if_pos q
      rw [if_pos q]
      by_cases e : j = n
      · subst e
        rw [pk_us, if_neg (by omega)]
        unfold dgt
        rw [if_pos q]
      · rw [pk_un e, if_pos (by omega)]
        exact hf j (by omega)
    · have ed : dgw k = 2 := if_neg q
      rw [if_neg q]
      by_cases e : j = n
      · subst e
        rw [pk_us, if_neg (by omega)]
        unfold dgt
        rw [if_neg q, if_pos (by omega)]
      · rw [pk_un e]
        by_cases e2 : j = n + 1
        · subst e2
          rw [pk_us, if_neg (by omega)]
          unfold dgt
          rw [if_neg q, if_neg (by omega)]
        · rw [pk_un e2, if_pos (by omega)]
          exact hf j (by omega)) (by
    unfold dgf
    split
    · exact byf_u hby (by omega)
    · exact byf_u (byf_u hby (by omega)) (by omega))
  show xW _ _ _ _
  simp (disch := omega) only [e107_33, e107_33i, e107_33n, e107_34, e107_37, e107_38, e107_39, e107_40, e107_40n, e107_41, e107_47, e107_47i, e107_47n, e107_48, e107_48n, e107_49, e107_50, e107_53, e107_53n, e107_54, e107_54n, xKv, xK0, xKx, xKHv, xKH0, xk_none, xk_i, xk_f, xk_l, xk_r, xk_n, xc_i, xc_f, xc_l, xc_d, xc_r, xc_n, xo_some, List.map_cons, List.map_nil, List.sum_cons, List.sum_nil, xnzn, xpn0, xpn1, xpnb, xpnn, i10, i00, true_imp_iff, false_imp_iff, not_true_eq_false, not_false_eq_true, true_and, and_true, implies_true, xnz0, xnz1, xnzb, xfz0, xfz1, xfzb, Option.isSome_some, if_true, if_false, xbF, xbT, and_false, false_and, Nat.zero_le, Nat.reduceEqDiff, Nat.reduceLeDiff, Nat.reduceAdd, Nat.reduceSub, xiT, xiF, f3'', e2, e101_5, e101_5i, e101_5n, e101_6, e101_6n, e101_7, e101_7n]
  exact hR v' N' _ hfin
theorem sp_sblen (h : BS h0 ah b v N n g) : xm κ 105 [.ref b] ah R ↔ R (.inl (some (.int (nI n)))) ah := by
  have f3 : xfld ah b 0 3 = some (.int (nI n)) := xfld_of h.1
  have hx0 : xis ah b 0 = True := xis_of h.1
  simp (disch := omega) only [en105, e105_0, e105_0n, e105_1, e105_4, en114, e114_0, e114_0n, e114_1, e114_4, xKv, xK0, xKx, xKHv, xKH0, xk_none, xk_i, xk_f, xk_l, xk_r, xk_n, xc_i, xc_f, xc_l, xc_d, xc_r, xc_n, xo_some, List.map_cons, List.map_nil, List.sum_cons, List.sum_nil, xnzn, xpn0, xpn1, xpnb, xpnn, i10, i00, true_imp_iff, false_imp_iff, not_true_eq_false, not_false_eq_true, true_and, and_true, implies_true, xnz0, xnz1, xnzb, xfz0, xfz1, xfzb, Option.isSome_some, if_true, if_false, xbF, xbT, and_false, false_and, Nat.zero_le, Nat.reduceEqDiff, Nat.reduceLeDiff, Nat.reduceAdd, Nat.reduceSub, xiT, xiF, f3, hx0]
theorem sp_sbchar (h : BS h0 ah b v N n g) {j : Nat} (hj : j < n) (hg : g j < 128) : xm κ 103 [.ref b, .int (nI j)] ah R ↔ R (.inl (some (.int (nI (g j))))) ah := by
  obtain ⟨hb, ⟨f, hv, hf, hby⟩, hnN, hN, hbv, hb0, hv0, he⟩ := id h
  have hx0 : xis ah b 0 = True := xis_of hb
  have f0 : xfld ah b 0 0 = some (.ref v) := xfld_of hb
  have f1 : xfld ah b 0 1 = some (.int 0) := xfld_of hb
  have f3 : xfld ah b 0 3 = some (.int (nI n)) := xfld_of hb
  have fl := xalen_i hv (by decide)
  have eN : Int32.ofNat N = nI N := rfl
  have q1 := xai_of hv
  have em : (if nI N < nI n then nI N else nI n) = nI n := if_neg (nI_nlt hnN (by omega))
  have ec := (fby ⟨g j, hg⟩).2.2.2
  dsimp only at ec
  have xn := xnc (c := g j) (by omega)
  by_cases hz : κ 33 = 0
  · have e33 : xnv (κ 33) = .null := if_pos hz
    simp (disch := omega) only [en103, e103_0, e103_0n, e103_1, e103_2, e103_5, en109, e109_0, e109_0n, e109_1, e109_4, e109_5, e109_5n, e109_6, e109_9, e109_9n, e109_10, e109_10n, e109_11, e109_14, e109_14n, e109_15, e109_16, e109_17, e109_18, e109_21, e109_23, e109_24, e109_26, e109_29, e109_30, e109_33, e109_33n, e109_34, e109_35, e109_36, e109_39, e109_40, e109_41, e109_42, e109_42n, e109_43, e109_47, en91, e91_0, e91_1, e91_2, e91_5, e91_8, e91_8i, e91_8n, e91_9, en99, e99_0, e99_1, e99_4, e99_5, e99_6, e99_9, e99_9n, e99_10, e99_11, e99_16, e99_17, en99n, xKv, xK0, xKx, xKHv, xKH0, xk_none, xk_i, xk_f, xk_l, xk_r, xk_n, xc_i, xc_f, xc_l, xc_d, xc_r, xc_n, xo_some, List.map_cons, List.map_nil, List.sum_cons, List.sum_nil, xnzn, xpn0, xpn1, xpnb, xpnn, i10, i00, true_imp_iff, false_imp_iff, not_true_eq_false, not_false_eq_true, true_and, and_true, implies_true, xnz0, xnz1, xnzb, xfz0, xfz1, xfzb, Option.isSome_some, if_true, if_false, xbF, xbT, and_false, false_and, Nat.zero_le, Nat.reduceEqDiff, Nat.reduceLeDiff, Nat.reduceAdd, Nat.reduceSub, xiT, xiF, pk_mul, nI_add, Nat.add_sub_cancel, lad0, leq0, lle0, lge0, llt0, lgt0, leq1, lle1, lge1, llt1, lgt1, lad1, lsu1, leq2, lle2, lge2, llt2, lgt2, lmu2, lmv2, lad2, lsu2, ldi2, leq3, lle3, lge3, llt3, lgt3, lmu3, lmv3, lad3, lsu3, ldi3, leq4, lle4, lge4, llt4, lgt4, lmu4, lmv4, lad4, lsu4, ldi4, leq5, lle5, lge5, llt5, lgt5, lmu5, lmv5, lad5, lsu5, ldi5, leq6, lle6, lge6, llt6, lgt6, lmu6, lmv6, lad6, lsu6, ldi6, leq8, lle8, lge8, llt8, lgt8, lmu8, lmv8, lad8, lsu8, ldi8, leq9, lle9, lge9, llt9, lgt9, lmu9, lmv9, lad9, lsu9, ldi9, leq10, lle10, lge10, llt10, lgt10, lmu10, lmv10, lad10, lsu10, ldi10, leq12, lle12, lge12, llt12, lgt12, lmu12, lmv12, lad12, lsu12, ldi12, leq20, lle20, lge20, llt20, lgt20, lmu20, lmv20, lad20, lsu20, ldi20, leq25, lle25, lge25, llt25, lgt25, lmu25, lmv25, lad25, lsu25, ldi25, leq30, lle30, lge30, llt30, lgt30, lmu30, lmv30, lad30, lsu30, ldi30, leq48, lle48, lge48, llt48, lgt48, lmu48, lmv48, lad48, lsu48, ldi48, leq50, lle50, lge50, llt50, lgt50, lmu50, lmv50, lad50, lsu50, ldi50, leq99, lle99, lge99, llt99, lgt99, lmu99, lmv99, lad99, lsu99, ldi99, leq100, lle100, lge100, llt100, lgt100, lmu100, lmv100, lad100, lsu100, ldi100, leq2000, lle2000, lge2000, llt2000, lgt2000, lmu2000, lmv2000, lad2000, lsu2000, ldi2000, hx0, f0, f1, f3, fl, eN, shr0', em, xlt, ltT, ltF, q1, xin_nI, nI_cl, hf j hj, ec, xn, e33]
  · have e33 : xnv (κ 33) = .ref (κ 33 - 1) := if_neg hz
    simp (disch := omega) only [en103, e103_0, e103_0n, e103_1, e103_2, e103_5, en109, e109_0, e109_0n, e109_1, e109_4, e109_5, e109_5n, e109_6, e109_9, e109_9n, e109_10, e109_10n, e109_11, e109_14, e109_14n, e109_15, e109_16, e109_17, e109_18, e109_21, e109_23, e109_24, e109_26, e109_29, e109_30, e109_33, e109_33n, e109_34, e109_35, e109_36, e109_39, e109_40, e109_41, e109_42, e109_42n, e109_43, e109_47, en91, e91_0, e91_1, e91_2, e91_5, e91_8, e91_8i, e91_8n, e91_9, en99, e99_0, e99_1, e99_4, e99_5, e99_6, e99_9, e99_9n, e99_10, e99_11, e99_16, e99_17, xKv, xK0, xKx, xKHv, xKH0, xk_none, xk_i, xk_f, xk_l, xk_r, xk_n, xc_i, xc_f, xc_l, xc_d, xc_r, xc_n, xo_some, List.map_cons, List.map_nil, List.sum_cons, List.sum_nil, xnzn, xpn0, xpn1, xpnb, xpnn, i10, i00, true_imp_iff, false_imp_iff, not_true_eq_false, not_false_eq_true, true_and, and_true, implies_true, xnz0, xnz1, xnzb, xfz0, xfz1, xfzb, Option.isSome_some, if_true, if_false, xbF, xbT, and_false, false_and, Nat.zero_le, Nat.reduceEqDiff, Nat.reduceLeDiff, Nat.reduceAdd, Nat.reduceSub, xiT, xiF, pk_mul, nI_add, Nat.add_sub_cancel, lad0, leq0, lle0, lge0, llt0, lgt0, leq1, lle1, lge1, llt1, lgt1, lad1, lsu1, leq2, lle2, lge2, llt2, lgt2, lmu2, lmv2, lad2, lsu2, ldi2, leq3, lle3, lge3, llt3, lgt3, lmu3, lmv3, lad3, lsu3, ldi3, leq4, lle4, lge4, llt4, lgt4, lmu4, lmv4, lad4, lsu4, ldi4, leq5, lle5, lge5, llt5, lgt5, lmu5, lmv5, lad5, lsu5, ldi5, leq6, lle6, lge6, llt6, lgt6, lmu6, lmv6, lad6, lsu6, ldi6, leq8, lle8, lge8, llt8, lgt8, lmu8, lmv8, lad8, lsu8, ldi8, leq9, lle9, lge9, llt9, lgt9, lmu9, lmv9, lad9, lsu9, ldi9, leq10, lle10, lge10, llt10, lgt10, lmu10, lmv10, lad10, lsu10, ldi10, leq12, lle12, lge12, llt12, lgt12, lmu12, lmv12, lad12, lsu12, ldi12, leq20, lle20, lge20, llt20, lgt20, lmu20, lmv20, lad20, lsu20, ldi20, leq25, lle25, lge25, llt25, lgt25, lmu25, lmv25, lad25, lsu25, ldi25, leq30, lle30, lge30, llt30, lgt30, lmu30, lmv30, lad30, lsu30, ldi30, leq48, lle48, lge48, llt48, lgt48, lmu48, lmv48, lad48, lsu48, ldi48, leq50, lle50, lge50, llt50, lgt50, lmu50, lmv50, lad50, lsu50, ldi50, leq99, lle99, lge99, llt99, lgt99, lmu99, lmv99, lad99, lsu99, ldi99, leq100, lle100, lge100, llt100, lgt100, lmu100, lmv100, lad100, lsu100, ldi100, leq2000, lle2000, lge2000, llt2000, lgt2000, lmu2000, lmv2000, lad2000, lsu2000, ldi2000, hx0, f0, f1, f3, fl, eN, shr0', em, xlt, ltT, ltF, q1, xin_nI, nI_cl, hf j hj, ec, xn, e33]
end

