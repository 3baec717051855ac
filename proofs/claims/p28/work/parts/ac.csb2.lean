/-! StringBuilder: append -/
section
variable {κ : Nat → Nat} {R : xR → xH → Prop} {h0 ah : xH} {b v N n : Nat} {g : Nat → Nat}
theorem BS.put (h : BS h0 ah b v N n g) {f' : Nat → Int32} {m : Nat} {g' : Nat → Nat} (hm : m ≤ N) (hf : ∀ j, j < m → f' j = nI (g' j)) (hby : byf f') : BS h0 (xup (xup ah v (.inl (2, N, .inl f'))) b (.inr (0, [.ref v, .int 0, .int 0, .int (nI m)]))) b v N m g' := by
  obtain ⟨hb, -, hn, hN, hbv, hb0, hv0, he⟩ := h
  exact ⟨xup_self _ _ _, ⟨f', by rw [xup_ne _ _ (fun q => hbv q.symm), xup_self], hf, hby⟩, hm, hN, hbv, hb0, hv0, (he.up hv0).up hb0⟩
theorem sp_appC (h : BS h0 ah b v N n g) (hn : n < 34) {c : Nat} (hc : c < 128) (hR : ∀ v' N' ah', BS h0 ah' b v' N' (n + 1) (fun j => if j = n then c else g j) → R (.inl (some (.ref b))) ah') : xm κ 102 [.ref b, .int (nI c)] ah R := by
  have hx0 : xis ah b 0 := ⟨_, h.1⟩
  have f3 : xfld ah b 0 3 = some (.int (nI n)) := xfld_of h.1
  rw [en102, e102_0, e102_1, e102_2]
  refine ⟨⟨by decide, hx0, by decide, by decide⟩, ?_⟩
  rw [en106]
  simp (disch := omega) only [e106_0, e106_0n, e106_1, e106_1n, e106_2, e106_5, e106_6, xKv, xK0, xKx, xKHv, xKH0, xk_none, xk_i, xk_f, xk_l, xk_r, xk_n, xc_i, xc_f, xc_l, xc_d, xc_r, xc_n, xo_some, List.map_cons, List.map_nil, List.sum_cons, List.sum_nil, xnzn, xpn0, xpn1, xpnb, xpnn, i10, i00, true_imp_iff, false_imp_iff, not_true_eq_false, not_false_eq_true, true_and, and_true, implies_true, xnz0, xnz1, xnzb, xfz0, xfz1, xfzb, Option.isSome_some, if_true, if_false, xbF, xbT, and_false, false_and, Nat.zero_le, Nat.reduceEqDiff, Nat.reduceLeDiff, Nat.reduceAdd, Nat.reduceSub, xiT, xiF, pk_mul, nI_add, Nat.add_sub_cancel, lad0, leq0, lle0, lge0, llt0, lgt0, leq1, lle1, lge1, llt1, lgt1, lad1, lsu1, leq2, lle2, lge2, llt2, lgt2, lmu2, lmv2, lad2, lsu2, ldi2, leq3, lle3, lge3, llt3, lgt3, lmu3, lmv3, lad3, lsu3, ldi3, leq4, lle4, lge4, llt4, lgt4, lmu4, lmv4, lad4, lsu4, ldi4, leq5, lle5, lge5, llt5, lgt5, lmu5, lmv5, lad5, lsu5, ldi5, leq6, lle6, lge6, llt6, lgt6, lmu6, lmv6, lad6, lsu6, ldi6, leq8, lle8, lge8, llt8, lgt8, lmu8, lmv8, lad8, lsu8, ldi8, leq9, lle9, lge9, llt9, lgt9, lmu9, lmv9, lad9, lsu9, ldi9, leq10, lle10, lge10, llt10, lgt10, lmu10, lmv10, lad10, lsu10, ldi10, leq12, lle12, lge12, llt12, lgt12, lmu12, lmv12, lad12, lsu12, ldi12, leq20, lle20, lge20, llt20, lgt20, lmu20, lmv20, lad20, lsu20, ldi20, leq25, lle25, lge25, llt25, lgt25, lmu25, lmv25, lad25, lsu25, ldi25, leq30, lle30, lge30, llt30, lgt30, lmu30, lmv30, lad30, lsu30, ldi30, leq48, lle48, lge48, llt48, lgt48, lmu48, lmv48, lad48, lsu48, ldi48, leq50, lle50, lge50, llt50, lgt50, lmu50, lmv50, lad50, lsu50, ldi50, leq99, lle99, lge99, llt99, lgt99, lmu99, lmv99, lad99, lsu99, ldi99, leq100, lle100, lge100, llt100, lgt100, lmu100, lmv100, lad100, lsu100, ldi100, leq2000, lle2000, lge2000, llt2000, lgt2000, lmu2000, lmv2000, lad2000, lsu2000, ldi2000, f3]
  rw [e106_7]
  refine ⟨⟨by decide, hx0, by decide, by decide⟩, sp_ens h (by omega) (fun v' N' ah' h' hN' => ?_)⟩
  obtain ⟨hb, ⟨f, hv, hf, hby⟩, hnN, hN, hbv, hb0, hv0, he⟩ := id h'
  have hx0' : xis ah' b 0 = True := xis_of hb
  have f0 : xfld ah' b 0 0 = some (.ref v') := xfld_of hb
  have f1 : xfld ah' b 0 1 = some (.int 0) := xfld_of hb
  have f3' : xfld ah' b 0 3 = some (.int (nI n)) := xfld_of hb
  have e1 : xput ah' b 3 (.int (nI (n + 1))) = xup ah' b (.inr (0, [.ref v', .int 0, .int 0, .int (nI (n + 1))])) := xput_of hb
  have hv1 : xup ah' b (.inr (0, [.ref v', .int 0, .int 0, .int (nI (n + 1))])) v' = some (.inl (2, N', .inl f)) := by rw [xup_ne _ _ (fun q => hbv q.symm)]; exact hv
  have q1 := xai_of hv1
  have c255 : ((255 : Int32) < nI c) = False := eq_false (show ¬ nI 255 < nI c from nI_nlt (by omega) (by decide))
  obtain ⟨-, b1, b2, -⟩ := fby ⟨c, hc⟩
  dsimp only at b1 b2
  have ex : xup (xup ah' b (.inr (0, [.ref v', .int 0, .int 0, .int (nI (n + 1))]))) v' (.inl (2, N', .inl (upd f n (nI c)))) = xup (xup ah' v' (.inl (2, N', .inl (upd f n (nI c))))) b (.inr (0, [.ref v', .int 0, .int 0, .int (nI (n + 1))])) := xup_cm hbv
  have hfin := h'.put (f' := upd f n (nI c)) (m := n + 1) (g' := fun j => if j = n then c else g j) (by omega) (fun j hj => by
    by_cases e : j = n
    · subst e; rw [pk_us, if_pos rfl]
    · rw [pk_un e, if_neg e]; exact hf j (by omega)) (byf_u hby hc)
  show xW _ _ _ _
  simp (disch := omega) only [e106_10, e106_10n, e106_11, e106_14, e106_17, e106_18, e106_21, e106_24, e106_24n, e106_25, e106_28, e106_28n, e106_29, e106_29i, e106_30, e106_33, e106_33i, e106_34, e106_35, e106_36, e106_39, e106_40, e106_41, e106_42, e106_45, e106_45n, e106_46, e106_49, e106_52, e106_52n, e106_56, e106_56n, e106_57, e106_60, e106_60n, e106_61, e106_61i, e106_62, e106_65, e106_65i, e106_66, e106_67, e106_68, e106_71, e106_75, e106_75n, e106_76, e106_76n, xKv, xK0, xKx, xKHv, xKH0, xk_none, xk_i, xk_f, xk_l, xk_r, xk_n, xc_i, xc_f, xc_l, xc_d, xc_r, xc_n, xo_some, List.map_cons, List.map_nil, List.sum_cons, List.sum_nil, xnzn, xpn0, xpn1, xpnb, xpnn, i10, i00, true_imp_iff, false_imp_iff, not_true_eq_false, not_false_eq_true, true_and, and_true, implies_true, xnz0, xnz1, xnzb, xfz0, xfz1, xfzb, Option.isSome_some, if_true, if_false, xbF, xbT, and_false, false_and, Nat.zero_le, Nat.reduceEqDiff, Nat.reduceLeDiff, Nat.reduceAdd, Nat.reduceSub, xiT, xiF, pk_mul, nI_add, Nat.add_sub_cancel, lad0, leq0, lle0, lge0, llt0, lgt0, leq1, lle1, lge1, llt1, lgt1, lad1, lsu1, leq2, lle2, lge2, llt2, lgt2, lmu2, lmv2, lad2, lsu2, ldi2, leq3, lle3, lge3, llt3, lgt3, lmu3, lmv3, lad3, lsu3, ldi3, leq4, lle4, lge4, llt4, lgt4, lmu4, lmv4, lad4, lsu4, ldi4, leq5, lle5, lge5, llt5, lgt5, lmu5, lmv5, lad5, lsu5, ldi5, leq6, lle6, lge6, llt6, lgt6, lmu6, lmv6, lad6, lsu6, ldi6, leq8, lle8, lge8, llt8, lgt8, lmu8, lmv8, lad8, lsu8, ldi8, leq9, lle9, lge9, llt9, lgt9, lmu9, lmv9, lad9, lsu9, ldi9, leq10, lle10, lge10, llt10, lgt10, lmu10, lmv10, lad10, lsu10, ldi10, leq12, lle12, lge12, llt12, lgt12, lmu12, lmv12, lad12, lsu12, ldi12, leq20, lle20, lge20, llt20, lgt20, lmu20, lmv20, lad20, lsu20, ldi20, leq25, lle25, lge25, llt25, lgt25, lmu25, lmv25, lad25, lsu25, ldi25, leq30, lle30, lge30, llt30, lgt30, lmu30, lmv30, lad30, lsu30, ldi30, leq48, lle48, lge48, llt48, lgt48, lmu48, lmv48, lad48, lsu48, ldi48, leq50, lle50, lge50, llt50, lgt50, lmu50, lmv50, lad50, lsu50, ldi50, leq99, lle99, lge99, llt99, lgt99, lmu99, lmv99, lad99, lsu99, ldi99, leq100, lle100, lge100, llt100, lgt100, lmu100, lmv100, lad100, lsu100, ldi100, leq2000, lle2000, lge2000, llt2000, lgt2000, lmu2000, lmv2000, lad2000, lsu2000, ldi2000, hx0', en113, e113_0, e113_3, e113_6, e113_6n, e113_7, e113_10, e113_13, e113_14, e113_17, e113_18, f1, en97, e97_0, e97_1, e97_4, e97_7, e97_8, e97_11, e97_12, c255, f0, f3', e1, q1, b1, b2, xin_nI, nI_cl, ex, e102_5, e102_5i, e102_5n, e102_6, e102_6n, e102_7, e102_7n]
  exact hR v' N' _ hfin
theorem sp_appS (hS : KS κ) (h : BS h0 ah b v N n g) {q : Nat} (hq : q < 7) (hn : n + xLen.getD q 0 ≤ 34) (hR : ∀ v' N' ah', BS h0 ah' b v' N' (n + xLen.getD q 0) (fun j => if j < n then g j else xby q (j - n)) → R (.inl (some (.ref b))) ah') : xm κ 100 [.ref b, .ref (κ (10 + q))] ah R := by
  have hx0 : xis ah b 0 := ⟨_, h.1⟩
  have hl := xlen_k ⟨q, hq⟩
  dsimp only at hl
  have f3 : xfld ah b 0 3 = some (.int (nI n)) := xfld_of h.1
  generalize hlen : xLen.getD q 0 = len at *
  have eo : Int32.ofNat len = nI len := rfl
  have tri : (∃ i, i < 7 ∧ κ (10 + q) = κ (10 + i)) = True := exg hq
  rw [en100, e100_0, e100_1, e100_2]
  refine ⟨⟨by decide, hx0, by decide, by decide⟩, ?_⟩
  rw [en108]
  simp (disch := omega) only [e108_0, e108_0n, e108_1n, e108_1, e108_4, e108_4n, e108_8, e108_8n, e108_9, e108_9n, e108_10, e108_13, e108_14, e108_14n, e108_15, e108_15n, e108_16, e108_19, e108_20, xKv, xK0, xKx, xKHv, xKH0, xk_none, xk_i, xk_f, xk_l, xk_r, xk_n, xc_i, xc_f, xc_l, xc_d, xc_r, xc_n, xo_some, List.map_cons, List.map_nil, List.sum_cons, List.sum_nil, xnzn, xpn0, xpn1, xpnb, xpnn, i10, i00, true_imp_iff, false_imp_iff, not_true_eq_false, not_false_eq_true, true_and, and_true, implies_true, xnz0, xnz1, xnzb, xfz0, xfz1, xfzb, Option.isSome_some, if_true, if_false, xbF, xbT, and_false, false_and, Nat.zero_le, Nat.reduceEqDiff, Nat.reduceLeDiff, Nat.reduceAdd, Nat.reduceSub, xiT, xiF, pk_mul, nI_add, Nat.add_sub_cancel, lad0, leq0, lle0, lge0, llt0, lgt0, leq1, lle1, lge1, llt1, lgt1, lad1, lsu1, leq2, lle2, lge2, llt2, lgt2, lmu2, lmv2, lad2, lsu2, ldi2, leq3, lle3, lge3, llt3, lgt3, lmu3, lmv3, lad3, lsu3, ldi3, leq4, lle4, lge4, llt4, lgt4, lmu4, lmv4, lad4, lsu4, ldi4, leq5, lle5, lge5, llt5, lgt5, lmu5, lmv5, lad5, lsu5, ldi5, leq6, lle6, lge6, llt6, lgt6, lmu6, lmv6, lad6, lsu6, ldi6, leq8, lle8, lge8, llt8, lgt8, lmu8, lmv8, lad8, lsu8, ldi8, leq9, lle9, lge9, llt9, lgt9, lmu9, lmv9, lad9, lsu9, ldi9, leq10, lle10, lge10, llt10, lgt10, lmu10, lmv10, lad10, lsu10, ldi10, leq12, lle12, lge12, llt12, lgt12, lmu12, lmv12, lad12, lsu12, ldi12, leq20, lle20, lge20, llt20, lgt20, lmu20, lmv20, lad20, lsu20, ldi20, leq25, lle25, lge25, llt25, lgt25, lmu25, lmv25, lad25, lsu25, ldi25, leq30, lle30, lge30, llt30, lgt30, lmu30, lmv30, lad30, lsu30, ldi30, leq48, lle48, lge48, llt48, lgt48, lmu48, lmv48, lad48, lsu48, ldi48, leq50, lle50, lge50, llt50, lgt50, lmu50, lmv50, lad50, lsu50, ldi50, leq99, lle99, lge99, llt99, lgt99, lmu99, lmv99, lad99, lsu99, ldi99, leq100, lle100, lge100, llt100, lgt100, lmu100, lmv100, lad100, lsu100, ldi100, leq2000, lle2000, lge2000, llt2000, lgt2000, lmu2000, lmv2000, lad2000, lsu2000, ldi2000, tri, en94, e94_0, e94_0n, e94_1, e94_4, e94_5, e94_5n, e94_6, e94_9, e94_10, exS hS hq, exT hS hq, hlen, eo, en92, e92_0, e92_3, e92_6, e92_6n, e92_7, e92_10, e92_13, e92_14, shr0', f3, nI_add, show narrow .byte (.int 0) = .int 0 from rfl]
  rw [e108_21]
  refine ⟨⟨by decide, hx0, by decide, by decide⟩, sp_ens h hn (fun v' N' ah' h' hN' => ?_)⟩
  obtain ⟨hb, ⟨f, hv, hf, hby⟩, hnN, hN, hbv, hb0, hv0, he⟩ := id h'
  have hx0' : xis ah' b 0 = True := xis_of hb
  have f0' : xfld ah' b 0 0 = some (.ref v') := xfld_of hb
  have f1' : xfld ah' b 0 1 = some (.int 0) := xfld_of hb
  have f3' : xfld ah' b 0 3 = some (.int (nI n)) := xfld_of hb
  have q1 := xai_of hv
  show xW _ _ _ _
  simp (disch := omega) only [e108_24, e108_24n, e108_25, e108_25n, e108_26, e108_29, e108_29n, e108_30, xKv, xK0, xKx, xKHv, xKH0, xk_none, xk_i, xk_f, xk_l, xk_r, xk_n, xc_i, xc_f, xc_l, xc_d, xc_r, xc_n, xo_some, List.map_cons, List.map_nil, List.sum_cons, List.sum_nil, xnzn, xpn0, xpn1, xpnb, xpnn, i10, i00, true_imp_iff, false_imp_iff, not_true_eq_false, not_false_eq_true, true_and, and_true, implies_true, xnz0, xnz1, xnzb, xfz0, xfz1, xfzb, Option.isSome_some, if_true, if_false, xbF, xbT, and_false, false_and, Nat.zero_le, Nat.reduceEqDiff, Nat.reduceLeDiff, Nat.reduceAdd, Nat.reduceSub, xiT, xiF, pk_mul, nI_add, Nat.add_sub_cancel, lad0, leq0, lle0, lge0, llt0, lgt0, leq1, lle1, lge1, llt1, lgt1, lad1, lsu1, leq2, lle2, lge2, llt2, lgt2, lmu2, lmv2, lad2, lsu2, ldi2, leq3, lle3, lge3, llt3, lgt3, lmu3, lmv3, lad3, lsu3, ldi3, leq4, lle4, lge4, llt4, lgt4, lmu4, lmv4, lad4, lsu4, ldi4, leq5, lle5, lge5, llt5, lgt5, lmu5, lmv5, lad5, lsu5, ldi5, leq6, lle6, lge6, llt6, lgt6, lmu6, lmv6, lad6, lsu6, ldi6, leq8, lle8, lge8, llt8, lgt8, lmu8, lmv8, lad8, lsu8, ldi8, leq9, lle9, lge9, llt9, lgt9, lmu9, lmv9, lad9, lsu9, ldi9, leq10, lle10, lge10, llt10, lgt10, lmu10, lmv10, lad10, lsu10, ldi10, leq12, lle12, lge12, llt12, lgt12, lmu12, lmv12, lad12, lsu12, ldi12, leq20, lle20, lge20, llt20, lgt20, lmu20, lmv20, lad20, lsu20, ldi20, leq25, lle25, lge25, llt25, lgt25, lmu25, lmv25, lad25, lsu25, ldi25, leq30, lle30, lge30, llt30, lgt30, lmu30, lmv30, lad30, lsu30, ldi30, leq48, lle48, lge48, llt48, lgt48, lmu48, lmv48, lad48, lsu48, ldi48, leq50, lle50, lge50, llt50, lgt50, lmu50, lmv50, lad50, lsu50, ldi50, leq99, lle99, lge99, llt99, lgt99, lmu99, lmv99, lad99, lsu99, ldi99, leq100, lle100, lge100, llt100, lgt100, lmu100, lmv100, lad100, lsu100, ldi100, leq2000, lle2000, lge2000, llt2000, lgt2000, lmu2000, lmv2000, lad2000, lsu2000, ldi2000, f3', hx0', en116, e116_0, e116_0n, e116_1, e116_1n, e116_2, e116_5, e116_5n, e116_6, e116_6n, e116_7, e116_10, e116_11, e116_11n, e116_12, e116_15, e116_18, en112, e112_0, e112_3, e112_6, e112_6n, e112_7, e112_10, e112_10n, e112_11, e112_14, e112_17, e112_17n, e112_21, f0', f1', tri, en92, e92_0, e92_3, e92_6, e92_6n, e92_7, e92_10, e92_13, e92_14, exS hS hq, show narrow .byte (.int 0) = .int 0 from rfl, en93, e93_0, e93_0n, e93_1, e93_4, e93_5, e93_8, e93_8n, e93_9, e93_12, e93_13, e93_13n, e93_14, e93_15, e93_16, e93_17, e93_17n, e93_18, e93_21, shl0, exT hS hq, hlen, eo]
  rw [e93_22]
  refine ⟨q, hq, rfl, ?_⟩
  rw [q1, xo_some, nI_cl (by omega), nI_cl (by omega), hlen]
  have e00 : (0 : Int32).toNatClampNeg = 0 := by decide
  rw [e00]
  refine ⟨⟨by decide, nI_pos (by omega), nI_pos (by omega)⟩, ⟨by omega, hN'⟩, fun j hj => ?_, ?_⟩
  · obtain ⟨k1, k2⟩ := xby_k ⟨q, hq⟩ ⟨j, by omega⟩ (by dsimp only; omega)
    dsimp only at k1 k2
    rw [Nat.zero_add, k1]
    exact (fby ⟨_, k2⟩).1
  · have hb2 : xup ah' v' (.inl (2, N', .inl (va_cpy (fun j => (xByt.getD q []).getD j 0) f 0 n len))) b = some (.inr (0, [.ref v', .int 0, .int 0, .int (nI n)])) := by rw [xup_ne _ _ hbv]; exact hb
    have f3'' : xfld (xup ah' v' (.inl (2, N', .inl (va_cpy (fun j => (xByt.getD q []).getD j 0) f 0 n len)))) b 0 3 = some (.int (nI n)) := xfld_of hb2
    have e2 : xput (xup ah' v' (.inl (2, N', .inl (va_cpy (fun j => (xByt.getD q []).getD j 0) f 0 n len)))) b 3 (.int (nI (n + len))) = xup (xup ah' v' (.inl (2, N', .inl (va_cpy (fun j => (xByt.getD q []).getD j 0) f 0 n len)))) b (.inr (0, [.ref v', .int 0, .int 0, .int (nI (n + len))])) := xput_of hb2
    have hsrc : ∀ j, j < len → (xByt.getD q []).getD j 0 = nI (xby q j) ∧ xby q j < 128 := fun j hj => xby_k ⟨q, hq⟩ ⟨j, by omega⟩ (by dsimp only; omega)
    have hfin := h'.put (f' := va_cpy (fun j => (xByt.getD q []).getD j 0) f 0 n len) (m := n + len) (g' := fun j => if j < n then g j else xby q (j - n)) hN' (fun j hj => by
      by_cases e : j < n
      · rw [pk_cpy_out (Or.inl e), if_pos e]; exact hf j e
      · rw [pk_cpy_in (by omega) hj, if_neg e, Nat.zero_add]
        exact (hsrc _ (by omega)).1) (fun j => by
      by_cases e : n ≤ j ∧ j < n + len
      · rw [pk_cpy_in e.1 e.2, Nat.zero_add, (hsrc _ (by omega)).1]
        exact (fby ⟨_, (hsrc _ (by omega)).2⟩).1
      · rw [pk_cpy_out (by omega)]; exact hby j)
    simp (disch := omega) only [e93_25, e93_28, e93_28n, e93_29, e93_32, e93_33, e93_33n, e93_34, e93_35, e93_35n, e93_36, e93_39, e93_43, e116_18, e108_33, e108_33n, e108_34, e108_34i, e108_35, e108_38, e108_39, e108_40, e108_43, e108_43n, e108_44, e108_44n, xKv, xK0, xKx, xKHv, xKH0, xk_none, xk_i, xk_f, xk_l, xk_r, xk_n, xc_i, xc_f, xc_l, xc_d, xc_r, xc_n, xo_some, List.map_cons, List.map_nil, List.sum_cons, List.sum_nil, xnzn, xpn0, xpn1, xpnb, xpnn, i10, i00, true_imp_iff, false_imp_iff, not_true_eq_false, not_false_eq_true, true_and, and_true, implies_true, xnz0, xnz1, xnzb, xfz0, xfz1, xfzb, Option.isSome_some, if_true, if_false, xbF, xbT, and_false, false_and, Nat.zero_le, Nat.reduceEqDiff, Nat.reduceLeDiff, Nat.reduceAdd, Nat.reduceSub, xiT, xiF, f3'', nI_add, e2, e100_5, e100_5i, e100_5n, e100_6, e100_6n, e100_7, e100_7n]
    exact hR v' N' _ hfin
end

