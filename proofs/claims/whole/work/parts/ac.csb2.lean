/-! StringBuilder: append -/
section
variable {κ : Nat → Nat} {R : xR → xH → Prop} {h0 ah : xH} {b v N n : Nat} {g : Nat → Nat}
/-- a sign is written behind the last one, and counted -/
theorem BS.put (h : BS h0 ah b v N n g) {f' : Nat → Int32} {m : Nat} {g' : Nat → Nat} (hm : m ≤ N) (hf : ∀ j, j < m → f' j = nI (g' j)) (hby : byf f') : BS h0 (xup (xup ah v (.inl (2, N, .inl f'))) b (.inr (0, [.ref v, .int 0, .int 0, .int (nI m)]))) b v N m g' := by
  obtain ⟨hb, -, hn, hN, hbv, hb0, hv0, he⟩ := h
  exact ⟨xup_self _ _ _, ⟨f', by rw [xup_ne _ _ (fun q => hbv q.symm), xup_self], hf, hby⟩, hm, hN, hbv, hb0, hv0, (he.up hv0).up hb0⟩
theorem sp_appC (h : BS h0 ah b v N n g) (hn : n < 34) {c : Nat} (hc : c < 128) (hR : ∀ v' N' ah', BS h0 ah' b v' N' (n + 1) (fun j => if j = n then c else g j) → R (.inl (some (.ref b))) ah') : xm κ 159 [.ref b, .int (nI c)] ah R := by
  have hx0 : xis ah b 0 := ⟨_, h.1⟩
  have f3 : xfld ah b 0 3 = some (.int (nI n)) := xfld_of h.1
  rw [en159, e159_0, e159_1, e159_2]
  refine ⟨⟨by decide, hx0, by decide, by decide⟩, ?_⟩
  rw [en163]
  simp (disch := omega) only [e163_0, e163_0n, e163_1, e163_1n, e163_2, e163_5, e163_6, xKv, xK0, xKx, xKHv, xKH0, xk_none, xk_i, xk_f, xk_l, xk_r, xk_n, xc_i, xc_f, xc_l, xc_d, xc_r, xc_n, xo_some, List.map_cons, List.map_nil, List.sum_cons, List.sum_nil, xnzn, xpn0, xpn1, xpnb, xpnn, i10, i00, true_imp_iff, false_imp_iff, not_true_eq_false, not_false_eq_true, true_and, and_true, implies_true, xnz0, xnz1, xnzb, xfz0, xfz1, xfzb, Option.isSome_some, if_true, if_false, xbF, xbT, and_false, false_and, Nat.zero_le, Nat.reduceEqDiff, Nat.reduceLeDiff, Nat.reduceAdd, Nat.reduceSub, xiT, xiF, pk_mul, nI_add, Nat.add_sub_cancel, lad0, leq0, lle0, lge0, llt0, lgt0, leq1, lle1, lge1, llt1, lgt1, lad1, lsu1, leq2, lle2, lge2, llt2, lgt2, lmu2, lmv2, lad2, lsu2, ldi2, leq3, lle3, lge3, llt3, lgt3, lmu3, lmv3, lad3, lsu3, ldi3, leq4, lle4, lge4, llt4, lgt4, lmu4, lmv4, lad4, lsu4, ldi4, leq5, lle5, lge5, llt5, lgt5, lmu5, lmv5, lad5, lsu5, ldi5, leq6, lle6, lge6, llt6, lgt6, lmu6, lmv6, lad6, lsu6, ldi6, leq8, lle8, lge8, llt8, lgt8, lmu8, lmv8, lad8, lsu8, ldi8, leq9, lle9, lge9, llt9, lgt9, lmu9, lmv9, lad9, lsu9, ldi9, leq10, lle10, lge10, llt10, lgt10, lmu10, lmv10, lad10, lsu10, ldi10, leq12, lle12, lge12, llt12, lgt12, lmu12, lmv12, lad12, lsu12, ldi12, leq20, lle20, lge20, llt20, lgt20, lmu20, lmv20, lad20, lsu20, ldi20, leq25, lle25, lge25, llt25, lgt25, lmu25, lmv25, lad25, lsu25, ldi25, leq30, lle30, lge30, llt30, lgt30, lmu30, lmv30, lad30, lsu30, ldi30, leq48, lle48, lge48, llt48, lgt48, lmu48, lmv48, lad48, lsu48, ldi48, leq50, lle50, lge50, llt50, lgt50, lmu50, lmv50, lad50, lsu50, ldi50, leq99, lle99, lge99, llt99, lgt99, lmu99, lmv99, lad99, lsu99, ldi99, leq100, lle100, lge100, llt100, lgt100, lmu100, lmv100, lad100, lsu100, ldi100, leq2000, lle2000, lge2000, llt2000, lgt2000, lmu2000, lmv2000, lad2000, lsu2000, ldi2000, f3]
  rw [e163_7]
  refine ⟨⟨by decide, hx0, by decide, by decide⟩, sp_ens h (by omega) (fun v' N' ah' h' hN' => ?_)⟩
  obtain ⟨hb, ⟨f, hv, hf, hby⟩, hnN, hN, hbv, hb0, hv0, he⟩ := id h'
  have hx0' : xis ah' b 0 = True := xis_of hb
  have f0 : xfld ah' b 0 0 = some (.ref v') := xfld_of hb
  have f1 : xfld ah' b 0 1 = some (.int 0) := xfld_of hb
  have f3' : xfld ah' b 0 3 = some (.int (nI n)) := xfld_of hb
  have e1 : xput ah' b 3 (.int (nI (n + 1))) = xup ah' b (.inr (0, [.ref v', .int 0, .int 0, .int (nI (n + 1))])) := xput_of hb
  have hv1 : xup ah' b (.inr (0, [.ref v', .int 0, .int 0, .int (nI (n + 1))])) v' = some (.inl (2, N', .inl f)) := by rw [xup_ne _ _ (fun q => hbv q.symm)]; exact hv
  have q1 := xai_of hv1
  have c255 : ((255 : Int32) < nI c) = False := eq_false (show ¬ nI 255 < nI c from nI_nlt (by omega) (by decide))
  obtain ⟨-, b1, b2, -⟩ := fby ⟨c, hc⟩
  dsimp only at b1 b2
  have ex : xup (xup ah' b (.inr (0, [.ref v', .int 0, .int 0, .int (nI (n + 1))]))) v' (.inl (2, N', .inl (upd f n (nI c)))) = xup (xup ah' v' (.inl (2, N', .inl (upd f n (nI c))))) b (.inr (0, [.ref v', .int 0, .int 0, .int (nI (n + 1))])) := xup_cm hbv
  have hfin := h'.put (f' := upd f n (nI c)) (m := n + 1) (g' := fun j => if j = n then c else g j) (by omega) (fun j hj => by
    by_cases e : j = n
    · subst e; rw [pk_us, if_pos rfl]
    · rw [pk_un e, if_neg e]; exact hf j (by omega)) (byf_u hby hc)
  show xW _ _ _ _
  simp (disch := omega) only [e163_10, e163_10n, e163_11, e163_14, e163_17, e163_18, e163_21, e163_24, e163_24n, e163_25, e163_28, e163_28n, e163_29, e163_29i, e163_30, e163_33, e163_33i, e163_34, e163_35, e163_36, e163_39, e163_40, e163_41, e163_42, e163_45, e163_45n, e163_46, e163_49, e163_52, e163_52n, e163_56, e163_56n, e163_57, e163_60, e163_60n, e163_61, e163_61i, e163_62, e163_65, e163_65i, e163_66, e163_67, e163_68, e163_71, e163_75, e163_75n, e163_76, e163_76n, xKv, xK0, xKx, xKHv, xKH0, xk_none, xk_i, xk_f, xk_l, xk_r, xk_n, xc_i, xc_f, xc_l, xc_d, xc_r, xc_n, xo_some, List.map_cons, List.map_nil, List.sum_cons, List.sum_nil, xnzn, xpn0, xpn1, xpnb, xpnn, i10, i00, true_imp_iff, false_imp_iff, not_true_eq_false, not_false_eq_true, true_and, and_true, implies_true, xnz0, xnz1, xnzb, xfz0, xfz1, xfzb, Option.isSome_some, if_true, if_false, xbF, xbT, and_false, false_and, Nat.zero_le, Nat.reduceEqDiff, Nat.reduceLeDiff, Nat.reduceAdd, Nat.reduceSub, xiT, xiF, pk_mul, nI_add, Nat.add_sub_cancel, lad0, leq0, lle0, lge0, llt0, lgt0, leq1, lle1, lge1, llt1, lgt1, lad1, lsu1, leq2, lle2, lge2, llt2, lgt2, lmu2, lmv2, lad2, lsu2, ldi2, leq3, lle3, lge3, llt3, lgt3, lmu3, lmv3, lad3, lsu3, ldi3, leq4, lle4, lge4, llt4, lgt4, lmu4, lmv4, lad4, lsu4, ldi4, leq5, lle5, lge5, llt5, lgt5, lmu5, lmv5, lad5, lsu5, ldi5, leq6, lle6, lge6, llt6, lgt6, lmu6, lmv6, lad6, lsu6, ldi6, leq8, lle8, lge8, llt8, lgt8, lmu8, lmv8, lad8, lsu8, ldi8, leq9, lle9, lge9, llt9, lgt9, lmu9, lmv9, lad9, lsu9, ldi9, leq10, lle10, lge10, llt10, lgt10, lmu10, lmv10, lad10, lsu10, ldi10, leq12, lle12, lge12, llt12, lgt12, lmu12, lmv12, lad12, lsu12, ldi12, leq20, lle20, lge20, llt20, lgt20, lmu20, lmv20, lad20, lsu20, ldi20, leq25, lle25, lge25, llt25, lgt25, lmu25, lmv25, lad25, lsu25, ldi25, leq30, lle30, lge30, llt30, lgt30, lmu30, lmv30, lad30, lsu30, ldi30, leq48, lle48, lge48, llt48, lgt48, lmu48, lmv48, lad48, lsu48, ldi48, leq50, lle50, lge50, llt50, lgt50, lmu50, lmv50, lad50, lsu50, ldi50, leq99, lle99, lge99, llt99, lgt99, lmu99, lmv99, lad99, lsu99, ldi99, leq100, lle100, lge100, llt100, lgt100, lmu100, lmv100, lad100, lsu100, ldi100, leq2000, lle2000, lge2000, llt2000, lgt2000, lmu2000, lmv2000, lad2000, lsu2000, ldi2000, hx0', en170, e170_0, e170_3, e170_6, e170_6n, e170_7, e170_10, e170_13, e170_14, e170_17, e170_18, f1, en154, e154_0, e154_1, e154_4, e154_7, e154_8, e154_11, e154_12, c255, f0, f3', e1, q1, b1, b2, xin_nI, nI_cl, ex, e159_5, e159_5i, e159_5n, e159_6, e159_6n, e159_7, e159_7n]
  exact hR v' N' _ hfin
theorem sp_appS (hS : KS κ) (h : BS h0 ah b v N n g) {q : Nat} (hq : q < 7) (hn : n + xLen.getD q 0 ≤ 34) (hR : ∀ v' N' ah', BS h0 ah' b v' N' (n + xLen.getD q 0) (fun j => if j < n then g j else xby q (j - n)) → R (.inl (some (.ref b))) ah') : xm κ 157 [.ref b, .ref (κ (10 + q))] ah R := by
  have hx0 : xis ah b 0 := ⟨_, h.1⟩
  have hl := xlen_k ⟨q, hq⟩
  dsimp only at hl
  have f3 : xfld ah b 0 3 = some (.int (nI n)) := xfld_of h.1
  generalize hlen : xLen.getD q 0 = len at *
  have eo : Int32.ofNat len = nI len := rfl
  have tri : (∃ i, i < 7 ∧ κ (10 + q) = κ (10 + i)) = True := exg hq
  rw [en157, e157_0, e157_1, e157_2]
  refine ⟨⟨by decide, hx0, by decide, by decide⟩, ?_⟩
  rw [en165]
  simp (disch := omega) only [e165_0, e165_0n, e165_1n, e165_1, e165_4, e165_4n, e165_8, e165_8n, e165_9, e165_9n, e165_10, e165_13, e165_14, e165_14n, e165_15, e165_15n, e165_16, e165_19, e165_20, xKv, xK0, xKx, xKHv, xKH0, xk_none, xk_i, xk_f, xk_l, xk_r, xk_n, xc_i, xc_f, xc_l, xc_d, xc_r, xc_n, xo_some, List.map_cons, List.map_nil, List.sum_cons, List.sum_nil, xnzn, xpn0, xpn1, xpnb, xpnn, i10, i00, true_imp_iff, false_imp_iff, not_true_eq_false, not_false_eq_true, true_and, and_true, implies_true, xnz0, xnz1, xnzb, xfz0, xfz1, xfzb, Option.isSome_some, if_true, if_false, xbF, xbT, and_false, false_and, Nat.zero_le, Nat.reduceEqDiff, Nat.reduceLeDiff, Nat.reduceAdd, Nat.reduceSub, xiT, xiF, pk_mul, nI_add, Nat.add_sub_cancel, lad0, leq0, lle0, lge0, llt0, lgt0, leq1, lle1, lge1, llt1, lgt1, lad1, lsu1, leq2, lle2, lge2, llt2, lgt2, lmu2, lmv2, lad2, lsu2, ldi2, leq3, lle3, lge3, llt3, lgt3, lmu3, lmv3, lad3, lsu3, ldi3, leq4, lle4, lge4, llt4, lgt4, lmu4, lmv4, lad4, lsu4, ldi4, leq5, lle5, lge5, llt5, lgt5, lmu5, lmv5, lad5, lsu5, ldi5, leq6, lle6, lge6, llt6, lgt6, lmu6, lmv6, lad6, lsu6, ldi6, leq8, lle8, lge8, llt8, lgt8, lmu8, lmv8, lad8, lsu8, ldi8, leq9, lle9, lge9, llt9, lgt9, lmu9, lmv9, lad9, lsu9, ldi9, leq10, lle10, lge10, llt10, lgt10, lmu10, lmv10, lad10, lsu10, ldi10, leq12, lle12, lge12, llt12, lgt12, lmu12, lmv12, lad12, lsu12, ldi12, leq20, lle20, lge20, llt20, lgt20, lmu20, lmv20, lad20, lsu20, ldi20, leq25, lle25, lge25, llt25, lgt25, lmu25, lmv25, lad25, lsu25, ldi25, leq30, lle30, lge30, llt30, lgt30, lmu30, lmv30, lad30, lsu30, ldi30, leq48, lle48, lge48, llt48, lgt48, lmu48, lmv48, lad48, lsu48, ldi48, leq50, lle50, lge50, llt50, lgt50, lmu50, lmv50, lad50, lsu50, ldi50, leq99, lle99, lge99, llt99, lgt99, lmu99, lmv99, lad99, lsu99, ldi99, leq100, lle100, lge100, llt100, lgt100, lmu100, lmv100, lad100, lsu100, ldi100, leq2000, lle2000, lge2000, llt2000, lgt2000, lmu2000, lmv2000, lad2000, lsu2000, ldi2000, tri, en151, e151_0, e151_0n, e151_1, e151_4, e151_5, e151_5n, e151_6, e151_9, e151_10, exS hS hq, exT hS hq, hlen, eo, en149, e149_0, e149_3, e149_6, e149_6n, e149_7, e149_10, e149_13, e149_14, shr0', f3, nI_add, show narrow .byte (.int 0) = .int 0 from rfl]
  rw [e165_21]
  refine ⟨⟨by decide, hx0, by decide, by decide⟩, sp_ens h hn (fun v' N' ah' h' hN' => ?_)⟩
  obtain ⟨hb, ⟨f, hv, hf, hby⟩, hnN, hN, hbv, hb0, hv0, he⟩ := id h'
  have hx0' : xis ah' b 0 = True := xis_of hb
  have f0' : xfld ah' b 0 0 = some (.ref v') := xfld_of hb
  have f1' : xfld ah' b 0 1 = some (.int 0) := xfld_of hb
  have f3' : xfld ah' b 0 3 = some (.int (nI n)) := xfld_of hb
  have q1 := xai_of hv
  show xW _ _ _ _
  simp (disch := omega) only [e165_24, e165_24n, e165_25, e165_25n, e165_26, e165_29, e165_29n, e165_30, xKv, xK0, xKx, xKHv, xKH0, xk_none, xk_i, xk_f, xk_l, xk_r, xk_n, xc_i, xc_f, xc_l, xc_d, xc_r, xc_n, xo_some, List.map_cons, List.map_nil, List.sum_cons, List.sum_nil, xnzn, xpn0, xpn1, xpnb, xpnn, i10, i00, true_imp_iff, false_imp_iff, not_true_eq_false, not_false_eq_true, true_and, and_true, implies_true, xnz0, xnz1, xnzb, xfz0, xfz1, xfzb, Option.isSome_some, if_true, if_false, xbF, xbT, and_false, false_and, Nat.zero_le, Nat.reduceEqDiff, Nat.reduceLeDiff, Nat.reduceAdd, Nat.reduceSub, xiT, xiF, pk_mul, nI_add, Nat.add_sub_cancel, lad0, leq0, lle0, lge0, llt0, lgt0, leq1, lle1, lge1, llt1, lgt1, lad1, lsu1, leq2, lle2, lge2, llt2, lgt2, lmu2, lmv2, lad2, lsu2, ldi2, leq3, lle3, lge3, llt3, lgt3, lmu3, lmv3, lad3, lsu3, ldi3, leq4, lle4, lge4, llt4, lgt4, lmu4, lmv4, lad4, lsu4, ldi4, leq5, lle5, lge5, llt5, lgt5, lmu5, lmv5, lad5, lsu5, ldi5, leq6, lle6, lge6, llt6, lgt6, lmu6, lmv6, lad6, lsu6, ldi6, leq8, lle8, lge8, llt8, lgt8, lmu8, lmv8, lad8, lsu8, ldi8, leq9, lle9, lge9, llt9, lgt9, lmu9, lmv9, lad9, lsu9, ldi9, leq10, lle10, lge10, llt10, lgt10, lmu10, lmv10, lad10, lsu10, ldi10, leq12, lle12, lge12, llt12, lgt12, lmu12, lmv12, lad12, lsu12, ldi12, leq20, lle20, lge20, llt20, lgt20, lmu20, lmv20, lad20, lsu20, ldi20, leq25, lle25, lge25, llt25, lgt25, lmu25, lmv25, lad25, lsu25, ldi25, leq30, lle30, lge30, llt30, lgt30, lmu30, lmv30, lad30, lsu30, ldi30, leq48, lle48, lge48, llt48, lgt48, lmu48, lmv48, lad48, lsu48, ldi48, leq50, lle50, lge50, llt50, lgt50, lmu50, lmv50, lad50, lsu50, ldi50, leq99, lle99, lge99, llt99, lgt99, lmu99, lmv99, lad99, lsu99, ldi99, leq100, lle100, lge100, llt100, lgt100, lmu100, lmv100, lad100, lsu100, ldi100, leq2000, lle2000, lge2000, llt2000, lgt2000, lmu2000, lmv2000, lad2000, lsu2000, ldi2000, f3', hx0', en173, e173_0, e173_0n, e173_1, e173_1n, e173_2, e173_5, e173_5n, e173_6, e173_6n, e173_7, e173_10, e173_11, e173_11n, e173_12, e173_15, e173_18, en169, e169_0, e169_3, e169_6, e169_6n, e169_7, e169_10, e169_10n, e169_11, e169_14, e169_17, e169_17n, e169_21, f0', f1', tri, en149, e149_0, e149_3, e149_6, e149_6n, e149_7, e149_10, e149_13, e149_14, exS hS hq, show narrow .byte (.int 0) = .int 0 from rfl, en150, e150_0, e150_0n, e150_1, e150_4, e150_5, e150_8, e150_8n, e150_9, e150_12, e150_13, e150_13n, e150_14, e150_15, e150_16, e150_17, e150_17n, e150_18, e150_21, shl0, exT hS hq, hlen, eo]
  rw [e150_22]
  refine ⟨q, hq, rfl, ?_⟩
  rw [q1, xo_some, nI_cl (by omega), nI_cl (by omega), hlen]
  have e00 : (0 : Int32).toNatClampNeg = 0 := by decide
  rw [e00]
  refine ⟨⟨by decide, nI_pos (by omega), nI_pos (by omega)⟩, ⟨by omega, hN'⟩, fun j hj => ?_, ?_⟩
  · obtain ⟨k1, k2⟩ := xby_k ⟨q, hq⟩ ⟨j, by omega⟩ (by dsimp only; omega)
    dsimp only at k1 k2
    rw [Nat.zero_add, k1]
    exact (fby ⟨_, k2⟩).1
  · have hb2 : xup ah' v' (.inl (2, N', .inl (va_cpy (fun j => (xByt.getD q []).getD j 0) f 0 n len))) b = some (.inr (0, [.ref v', .int 0, .int 0, .int (nI n)])) := by rw [xup_ne _ _ hbv]; exact hb
    have f3'' : xfld (xup ah' v' (.inl (2, N', .inl (va_cpy (fun j => (xByt.getD q []).getD j 0) f 0 n len)))) b 0 3 = some (.int (nI n)) := xfld_of hb2
    have e2 : xput (xup ah' v' (.inl (2, N', .inl (va_cpy (fun j => (xByt.getD q []).getD j 0) f 0 n len)))) b 3 (.int (nI (n + len))) = xup (xup ah' v' (.inl (2, N', .inl (va_cpy (fun j => (xByt.getD q []).getD j 0) f 0 n len)))) b (.inr (0, [.ref v', .int 0, .int 0, .int (nI (n + len))])) := xput_of hb2
    have hsrc : ∀ j, j < len → (xByt.getD q []).getD j 0 = nI (xby q j) ∧ xby q j < 128 := fun j hj => xby_k ⟨q, hq⟩ ⟨j, by omega⟩ (by dsimp only; omega)
    have hfin := h'.put (f' := va_cpy (fun j => (xByt.getD q []).getD j 0) f 0 n len) (m := n + len) (g' := fun j => if j < n then g j else xby q (j - n)) hN' (fun j hj => by
      by_cases e : j < n
      · rw [pk_cpy_out (Or.inl e), if_pos e]; exact hf j e
      · rw [pk_cpy_in (by omega) hj, if_neg e, Nat.zero_add]
        exact (hsrc _ (by omega)).1) (fun j => by
      by_cases e : n ≤ j ∧ j < n + len
      · rw [pk_cpy_in e.1 e.2, Nat.zero_add, (hsrc _ (by omega)).1]
        exact (fby ⟨_, (hsrc _ (by omega)).2⟩).1
      · rw [pk_cpy_out (by omega)]; exact hby j)
    simp (disch := omega) only [e150_25, e150_28, e150_28n, e150_29, e150_32, e150_33, e150_33n, e150_34, e150_35, e150_35n, e150_36, e150_39, e150_43, e173_18, e165_33, e165_33n, e165_34, e165_34i, e165_35, e165_38, e165_39, e165_40, e165_43, e165_43n, e165_44, e165_44n, xKv, xK0, xKx, xKHv, xKH0, xk_none, xk_i, xk_f, xk_l, xk_r, xk_n, xc_i, xc_f, xc_l, xc_d, xc_r, xc_n, xo_some, List.map_cons, List.map_nil, List.sum_cons, List.sum_nil, xnzn, xpn0, xpn1, xpnb, xpnn, i10, i00, true_imp_iff, false_imp_iff, not_true_eq_false, not_false_eq_true, true_and, and_true, implies_true, xnz0, xnz1, xnzb, xfz0, xfz1, xfzb, Option.isSome_some, if_true, if_false, xbF, xbT, and_false, false_and, Nat.zero_le, Nat.reduceEqDiff, Nat.reduceLeDiff, Nat.reduceAdd, Nat.reduceSub, xiT, xiF, f3'', nI_add, e2, e157_5, e157_5i, e157_5n, e157_6, e157_6n, e157_7, e157_7n]
    exact hR v' N' _ hfin
end
