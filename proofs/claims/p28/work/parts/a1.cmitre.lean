/-! the class's calls: mitre, fits, step, cut -/
theorem half_eq {x : UInt32} (h : FP.fcmp x 1056964608 = some .eq) : x = 1056964608 := by
  have h1 := (Jvm.FP.Core.fcmp_eq (a := x) (b := 1056964608)).mp h
  have h2 := (Jvm.FP.Core.fcmp_eq_key h1.1 h1.2.1).mp h
  unfold Jvm.FP.Core.fkey at h2
  have h3 : UInt32.toNat 1056964608 = 1056964608 := by decide
  rw [h3, if_neg (show ¬ 2 ^ 31 ≤ 1056964608 by decide)] at h2
  apply UInt32.toNat_inj.mp
  rw [h3]
  by_cases q : 2 ^ 31 ≤ x.toNat
  · rw [if_pos q] at h2
    have : (2 : Nat) ^ 31 = 2147483648 := by decide
    rw [this] at q h2
    omega
  · rw [if_neg q] at h2
    omega
theorem fint0 : Jvm.FP.Core.FInt 0 FP.fconst0 := by
  have := Jvm.FP.Core.val32_fconst0
  unfold Jvm.FP.Core.FInt
  rw [show Jvm.FP.Core.val32 FP.fconst0 = Jvm.FP.Core.Datum.fin false 0 (-149) from by decide +kernel]
  show Jvm.FP.Core.signed false (0 * 2 ^ (-149 : Int).toNat) = 0 * _
  simp [Jvm.FP.Core.signed]
theorem sum_pos {a b : Nat} (ha : 1 ≤ a) (ha2 : a ≤ 100) (hb : b ≤ 100) : FP.fcmp (FP.fadd (FP.i2f (nI a)) (FP.i2f (nI b))) FP.fconst0 = some .gt := by
  have t1 : (nI a).toInt = (a : Int) := nI_toInt (by omega)
  have t2 : (nI b).toInt = (b : Int) := nI_toInt (by omega)
  have i1 := Jvm.FP.Core.i2f_int (a := nI a) (by rw [t1]; omega)
  have i2 := Jvm.FP.Core.i2f_int (a := nI b) (by rw [t2]; omega)
  rw [t1] at i1
  rw [t2] at i2
  have i3 := Jvm.FP.Core.fadd_int i1 i2 (by omega)
  have := Jvm.FP.Core.fcmp_int i3 fint0
  have hc : compare ((a : Int) + b) 0 = .gt := by
    rw [Int.compare_eq_gt]
    omega
  rw [hc] at this
  exact this
section
variable {κ : Nat → Nat} {R : xR → xH → Prop} {A σ τ : xS} {h0 ah : xH}
theorem sp_share {a b : Nat} (ha : 1 ≤ a) (ha2 : a ≤ 100) (hb : b ≤ 100) : xm κ 70 [.float (FP.i2f (nI a)), .float (FP.i2f (nI b))] ah R ↔ R (.inl (some (.float (mits a b)))) ah := by
  have hs := sum_pos ha ha2 hb
  have hN := eq_true (mitsN (a := a) (b := b) ha (by omega))
  have cv : (Op.cmpValue (some Ordering.gt) .l ≤ 0) = False := by decide
  unfold mits at hN ⊢
  simp (disch := omega) only [en70, e70_0, e70_1, e70_2, e70_3, e70_4, e70_5, e70_6, e70_7, e70_10, e70_11, e70_12, e70_13, e70_16, e70_18, xKv, xK0, xKx, xKHv, xKH0, xk_none, xk_i, xk_f, xk_l, xk_r, xk_n, xc_i, xc_f, xc_l, xc_d, xc_r, xc_n, xo_some, List.map_cons, List.map_nil, List.sum_cons, List.sum_nil, xnzn, xpn0, xpn1, xpnb, xpnn, i10, i00, true_imp_iff, false_imp_iff, not_true_eq_false, not_false_eq_true, true_and, and_true, implies_true, xnz0, xnz1, xnzb, xfz0, xfz1, xfzb, Option.isSome_some, if_true, if_false, xbF, xbT, and_false, false_and, Nat.zero_le, Nat.reduceEqDiff, Nat.reduceLeDiff, Nat.reduceAdd, Nat.reduceSub, xiT, xiF, xfa, hs, hN, cv]
theorem lp_cmitre (h : CR κ A σ τ h0 ah) (hI : MI σ) {p o P : Nat} (hp : p < σ 16 0) (ho : o < σ 16 0) (hP : P ≤ 8) {b1 b2 : Int32} : ∀ (n i : Nat) (f q : UInt32) (l9 l10 : Option Value), i + n = P →
    R (.inl (some (.float (mit (dpa σ p) (dpa σ o) n i f q)))) ah →
    xW (T71 κ) (xm κ) R (38, [some (.ref (A 0 0)), some (.int b1), some (.int b2), some (.ref (A 20 p)), some (.ref (A 20 o)), some (.int (nI P)), some (.float f), some (.float q), some (.int (nI i)), l9, l10], [], ah, 0, 0) := by
  have hx1 : xis ah (A 20 p) 7 = True := xis_of (h.prof hp)
  have hx2 : xis ah (A 20 o) 7 = True := xis_of (h.prof ho)
  intro n
  induction n with
  | zero =>
    intro i f q l9 l10 hk hX
    have hk' : i = P := by omega
    subst hk'
    rw [e71_38]
    simp (disch := omega) only [e71_40, e71_42, e71_45, e71_45n, e71_46, e71_48, e71_51, e71_52, e71_52n, e71_54, e71_56, e71_59, e71_60, e71_63, e71_65, e71_67, e71_69, e71_70, e71_73, e71_75, e71_77, e71_78, e71_81, e71_83, e71_85, e71_86, e71_88, e71_90, e71_92, e71_93, e71_96, e71_98, e71_100, e71_102, e71_104, e71_107, e71_110, e71_112, xKv, xK0, xKx, xKHv, xKH0, xk_none, xk_i, xk_f, xk_l, xk_r, xk_n, xc_i, xc_f, xc_l, xc_d, xc_r, xc_n, xo_some, List.map_cons, List.map_nil, List.sum_cons, List.sum_nil, xnzn, xpn0, xpn1, xpnb, xpnn, i10, i00, true_imp_iff, false_imp_iff, not_true_eq_false, not_false_eq_true, true_and, and_true, implies_true, xnz0, xnz1, xnzb, xfz0, xfz1, xfzb, Option.isSome_some, if_true, if_false, xbF, xbT, and_false, false_and, Nat.zero_le, Nat.reduceEqDiff, Nat.reduceLeDiff, Nat.reduceAdd, Nat.reduceSub, xiT, xiF, pk_mul, nI_add, Nat.add_sub_cancel, lad0, leq0, lle0, lge0, llt0, lgt0, leq1, lle1, lge1, llt1, lgt1, lad1, lsu1, leq2, lle2, lge2, llt2, lgt2, lmu2, lmv2, lad2, lsu2, ldi2, leq3, lle3, lge3, llt3, lgt3, lmu3, lmv3, lad3, lsu3, ldi3, leq4, lle4, lge4, llt4, lgt4, lmu4, lmv4, lad4, lsu4, ldi4, leq5, lle5, lge5, llt5, lgt5, lmu5, lmv5, lad5, lsu5, ldi5, leq6, lle6, lge6, llt6, lgt6, lmu6, lmv6, lad6, lsu6, ldi6, leq8, lle8, lge8, llt8, lgt8, lmu8, lmv8, lad8, lsu8, ldi8, leq9, lle9, lge9, llt9, lgt9, lmu9, lmv9, lad9, lsu9, ldi9, leq10, lle10, lge10, llt10, lgt10, lmu10, lmv10, lad10, lsu10, ldi10, leq12, lle12, lge12, llt12, lgt12, lmu12, lmv12, lad12, lsu12, ldi12, leq20, lle20, lge20, llt20, lgt20, lmu20, lmv20, lad20, lsu20, ldi20, leq25, lle25, lge25, llt25, lgt25, lmu25, lmv25, lad25, lsu25, ldi25, leq30, lle30, lge30, llt30, lgt30, lmu30, lmv30, lad30, lsu30, ldi30, leq48, lle48, lge48, llt48, lgt48, lmu48, lmv48, lad48, lsu48, ldi48, leq50, lle50, lge50, llt50, lgt50, lmu50, lmv50, lad50, lsu50, ldi50, leq99, lle99, lge99, llt99, lgt99, lmu99, lmv99, lad99, lsu99, ldi99, leq100, lle100, lge100, llt100, lgt100, lmu100, lmv100, lad100, lsu100, ldi100, leq2000, lle2000, lge2000, llt2000, lgt2000, lmu2000, lmv2000, lad2000, lsu2000, ldi2000, xle, Nat.le_refl]
    exact hX
  | succ n ih =>
    intro i f q l9 l10 hk hX
    have hlt : ¬ P ≤ i := by omega
    have d1 := dpa_1 hI hp i
    have d2 := dpa_1 hI ho i
    have hN := mitsN (a := dpa σ p i) (b := dpa σ o i) d1.1 (by omega)
    have st1 : FP.fcmp (mfar (mits (dpa σ p i) (dpa σ o i))) q = some .gt → ∀ l9 l10, xW (T71 κ) (xm κ) R (38, [some (.ref (A 0 0)), some (.int b1), some (.int b2), some (.ref (A 20 p)), some (.ref (A 20 o)), some (.int (nI P)), some (.float (mits (dpa σ p i) (dpa σ o i))), some (.float (mfar (mits (dpa σ p i) (dpa σ o i)))), some (.int (nI (i + 1))), l9, l10], [], ah, 0, 0) := fun h2 l9 l10 => ih (i + 1) _ _ l9 l10 (by omega) (by
        have e : mit (dpa σ p) (dpa σ o) (n + 1) i f q = _ := xi_t h2
        rw [e] at hX; exact hX)
    have st2 : ¬ FP.fcmp (mfar (mits (dpa σ p i) (dpa σ o i))) q = some .gt → ∀ l9 l10, xW (T71 κ) (xm κ) R (38, [some (.ref (A 0 0)), some (.int b1), some (.int b2), some (.ref (A 20 p)), some (.ref (A 20 o)), some (.int (nI P)), some (.float f), some (.float q), some (.int (nI (i + 1))), l9, l10], [], ah, 0, 0) := fun h2 l9 l10 => ih (i + 1) _ _ l9 l10 (by omega) (by
        have e : mit (dpa σ p) (dpa σ o) (n + 1) i f q = _ := xi_f h2
        rw [e] at hX; exact hX)
    rw [e71_38]
    by_cases hg : FP.fcmp (mits (dpa σ p i) (dpa σ o i)) 1056964608 = some .gt
    · have e1 : mfar (mits (dpa σ p i) (dpa σ o i)) = FP.fsub (mits (dpa σ p i) (dpa σ o i)) 1056964608 := xi_f (by rw [hg]; decide)
      have hS := eq_true (fsubG hN)
      rw [e1] at st1 st2
      by_cases h2 : FP.fcmp (FP.fsub (mits (dpa σ p i) (dpa σ o i)) 1056964608) q = some .gt
      · have st := st1 h2
        simp (disch := omega) only [e71_40, e71_42, e71_45, e71_45n, e71_46, e71_48, e71_51, e71_52, e71_52n, e71_54, e71_56, e71_59, e71_60, e71_63, e71_65, e71_67, e71_69, e71_70, e71_73, e71_75, e71_77, e71_78, e71_81, e71_83, e71_85, e71_86, e71_88, e71_90, e71_92, e71_93, e71_96, e71_98, e71_100, e71_102, e71_104, e71_107, xKv, xK0, xKx, xKHv, xKH0, xk_none, xk_i, xk_f, xk_l, xk_r, xk_n, xc_i, xc_f, xc_l, xc_d, xc_r, xc_n, xo_some, List.map_cons, List.map_nil, List.sum_cons, List.sum_nil, xnzn, xpn0, xpn1, xpnb, xpnn, i10, i00, true_imp_iff, false_imp_iff, not_true_eq_false, not_false_eq_true, true_and, and_true, implies_true, xnz0, xnz1, xnzb, xfz0, xfz1, xfzb, Option.isSome_some, if_true, if_false, xbF, xbT, and_false, false_and, Nat.zero_le, Nat.reduceEqDiff, Nat.reduceLeDiff, Nat.reduceAdd, Nat.reduceSub, xiT, xiF, pk_mul, nI_add, Nat.add_sub_cancel, lad0, leq0, lle0, lge0, llt0, lgt0, leq1, lle1, lge1, llt1, lgt1, lad1, lsu1, leq2, lle2, lge2, llt2, lgt2, lmu2, lmv2, lad2, lsu2, ldi2, leq3, lle3, lge3, llt3, lgt3, lmu3, lmv3, lad3, lsu3, ldi3, leq4, lle4, lge4, llt4, lgt4, lmu4, lmv4, lad4, lsu4, ldi4, leq5, lle5, lge5, llt5, lgt5, lmu5, lmv5, lad5, lsu5, ldi5, leq6, lle6, lge6, llt6, lgt6, lmu6, lmv6, lad6, lsu6, ldi6, leq8, lle8, lge8, llt8, lgt8, lmu8, lmv8, lad8, lsu8, ldi8, leq9, lle9, lge9, llt9, lgt9, lmu9, lmv9, lad9, lsu9, ldi9, leq10, lle10, lge10, llt10, lgt10, lmu10, lmv10, lad10, lsu10, ldi10, leq12, lle12, lge12, llt12, lgt12, lmu12, lmv12, lad12, lsu12, ldi12, leq20, lle20, lge20, llt20, lgt20, lmu20, lmv20, lad20, lsu20, ldi20, leq25, lle25, lge25, llt25, lgt25, lmu25, lmv25, lad25, lsu25, ldi25, leq30, lle30, lge30, llt30, lgt30, lmu30, lmv30, lad30, lsu30, ldi30, leq48, lle48, lge48, llt48, lgt48, lmu48, lmv48, lad48, lsu48, ldi48, leq50, lle50, lge50, llt50, lgt50, lmu50, lmv50, lad50, lsu50, ldi50, leq99, lle99, lge99, llt99, lgt99, lmu99, lmv99, lad99, lsu99, ldi99, leq100, lle100, lge100, llt100, lgt100, lmu100, lmv100, lad100, lsu100, ldi100, leq2000, lle2000, lge2000, llt2000, lgt2000, lmu2000, lmv2000, lad2000, lsu2000, ldi2000, xle, hlt, hx1, hx2, sp_pdepth h hI hp, sp_pdepth h hI ho, sp_share d1.1 d1.2 d2.2, cvl, hg, hS, h2]
        exact st _ _
      · have st := st2 h2
        simp (disch := omega) only [e71_40, e71_42, e71_45, e71_45n, e71_46, e71_48, e71_51, e71_52, e71_52n, e71_54, e71_56, e71_59, e71_60, e71_63, e71_65, e71_67, e71_69, e71_70, e71_73, e71_75, e71_77, e71_78, e71_81, e71_83, e71_85, e71_86, e71_88, e71_90, e71_92, e71_93, e71_96, e71_98, e71_100, e71_102, e71_104, e71_107, xKv, xK0, xKx, xKHv, xKH0, xk_none, xk_i, xk_f, xk_l, xk_r, xk_n, xc_i, xc_f, xc_l, xc_d, xc_r, xc_n, xo_some, List.map_cons, List.map_nil, List.sum_cons, List.sum_nil, xnzn, xpn0, xpn1, xpnb, xpnn, i10, i00, true_imp_iff, false_imp_iff, not_true_eq_false, not_false_eq_true, true_and, and_true, implies_true, xnz0, xnz1, xnzb, xfz0, xfz1, xfzb, Option.isSome_some, if_true, if_false, xbF, xbT, and_false, false_and, Nat.zero_le, Nat.reduceEqDiff, Nat.reduceLeDiff, Nat.reduceAdd, Nat.reduceSub, xiT, xiF, pk_mul, nI_add, Nat.add_sub_cancel, lad0, leq0, lle0, lge0, llt0, lgt0, leq1, lle1, lge1, llt1, lgt1, lad1, lsu1, leq2, lle2, lge2, llt2, lgt2, lmu2, lmv2, lad2, lsu2, ldi2, leq3, lle3, lge3, llt3, lgt3, lmu3, lmv3, lad3, lsu3, ldi3, leq4, lle4, lge4, llt4, lgt4, lmu4, lmv4, lad4, lsu4, ldi4, leq5, lle5, lge5, llt5, lgt5, lmu5, lmv5, lad5, lsu5, ldi5, leq6, lle6, lge6, llt6, lgt6, lmu6, lmv6, lad6, lsu6, ldi6, leq8, lle8, lge8, llt8, lgt8, lmu8, lmv8, lad8, lsu8, ldi8, leq9, lle9, lge9, llt9, lgt9, lmu9, lmv9, lad9, lsu9, ldi9, leq10, lle10, lge10, llt10, lgt10, lmu10, lmv10, lad10, lsu10, ldi10, leq12, lle12, lge12, llt12, lgt12, lmu12, lmv12, lad12, lsu12, ldi12, leq20, lle20, lge20, llt20, lgt20, lmu20, lmv20, lad20, lsu20, ldi20, leq25, lle25, lge25, llt25, lgt25, lmu25, lmv25, lad25, lsu25, ldi25, leq30, lle30, lge30, llt30, lgt30, lmu30, lmv30, lad30, lsu30, ldi30, leq48, lle48, lge48, llt48, lgt48, lmu48, lmv48, lad48, lsu48, ldi48, leq50, lle50, lge50, llt50, lgt50, lmu50, lmv50, lad50, lsu50, ldi50, leq99, lle99, lge99, llt99, lgt99, lmu99, lmv99, lad99, lsu99, ldi99, leq100, lle100, lge100, llt100, lgt100, lmu100, lmv100, lad100, lsu100, ldi100, leq2000, lle2000, lge2000, llt2000, lgt2000, lmu2000, lmv2000, lad2000, lsu2000, ldi2000, xle, hlt, hx1, hx2, sp_pdepth h hI hp, sp_pdepth h hI ho, sp_share d1.1 d1.2 d2.2, cvl, hg, hS, h2]
        exact st _ _
    · have hS : vf_n32 (FP.fsub 1056964608 (mits (dpa σ p i) (dpa σ o i))) ∧ mfar (mits (dpa σ p i) (dpa σ o i)) = FP.fsub 1056964608 (mits (dpa σ p i) (dpa σ o i)) := by
        obtain ⟨r, hr⟩ := Jvm.Free.Fl.fcmp_of_noNaN hN halfFin.noNaN
        cases r with
        | lt => exact ⟨fsubL hr, xi_t hr⟩
        | gt => exact absurd hr hg
        | eq =>
          have e := half_eq hr
          rw [e]
          refine ⟨fsubG halfFin.noNaN, xi_f ?_⟩
          rw [e] at hr
          rw [hr]
          decide
      obtain ⟨hS1, e1⟩ := hS
      have hS := eq_true hS1
      rw [e1] at st1 st2
      by_cases h2 : FP.fcmp (FP.fsub 1056964608 (mits (dpa σ p i) (dpa σ o i))) q = some .gt
      · have st := st1 h2
        simp (disch := omega) only [e71_40, e71_42, e71_45, e71_45n, e71_46, e71_48, e71_51, e71_52, e71_52n, e71_54, e71_56, e71_59, e71_60, e71_63, e71_65, e71_67, e71_69, e71_70, e71_73, e71_75, e71_77, e71_78, e71_81, e71_83, e71_85, e71_86, e71_88, e71_90, e71_92, e71_93, e71_96, e71_98, e71_100, e71_102, e71_104, e71_107, xKv, xK0, xKx, xKHv, xKH0, xk_none, xk_i, xk_f, xk_l, xk_r, xk_n, xc_i, xc_f, xc_l, xc_d, xc_r, xc_n, xo_some, List.map_cons, List.map_nil, List.sum_cons, List.sum_nil, xnzn, xpn0, xpn1, xpnb, xpnn, i10, i00, true_imp_iff, false_imp_iff, not_true_eq_false, not_false_eq_true, true_and, and_true, implies_true, xnz0, xnz1, xnzb, xfz0, xfz1, xfzb, Option.isSome_some, if_true, if_false, xbF, xbT, and_false, false_and, Nat.zero_le, Nat.reduceEqDiff, Nat.reduceLeDiff, Nat.reduceAdd, Nat.reduceSub, xiT, xiF, pk_mul, nI_add, Nat.add_sub_cancel, lad0, leq0, lle0, lge0, llt0, lgt0, leq1, lle1, lge1, llt1, lgt1, lad1, lsu1, leq2, lle2, lge2, llt2, lgt2, lmu2, lmv2, lad2, lsu2, ldi2, leq3, lle3, lge3, llt3, lgt3, lmu3, lmv3, lad3, lsu3, ldi3, leq4, lle4, lge4, llt4, lgt4, lmu4, lmv4, lad4, lsu4, ldi4, leq5, lle5, lge5, llt5, lgt5, lmu5, lmv5, lad5, lsu5, ldi5, leq6, lle6, lge6, llt6, lgt6, lmu6, lmv6, lad6, lsu6, ldi6, leq8, lle8, lge8, llt8, lgt8, lmu8, lmv8, lad8, lsu8, ldi8, leq9, lle9, lge9, llt9, lgt9, lmu9, lmv9, lad9, lsu9, ldi9, leq10, lle10, lge10, llt10, lgt10, lmu10, lmv10, lad10, lsu10, ldi10, leq12, lle12, lge12, llt12, lgt12, lmu12, lmv12, lad12, lsu12, ldi12, leq20, lle20, lge20, llt20, lgt20, lmu20, lmv20, lad20, lsu20, ldi20, leq25, lle25, lge25, llt25, lgt25, lmu25, lmv25, lad25, lsu25, ldi25, leq30, lle30, lge30, llt30, lgt30, lmu30, lmv30, lad30, lsu30, ldi30, leq48, lle48, lge48, llt48, lgt48, lmu48, lmv48, lad48, lsu48, ldi48, leq50, lle50, lge50, llt50, lgt50, lmu50, lmv50, lad50, lsu50, ldi50, leq99, lle99, lge99, llt99, lgt99, lmu99, lmv99, lad99, lsu99, ldi99, leq100, lle100, lge100, llt100, lgt100, lmu100, lmv100, lad100, lsu100, ldi100, leq2000, lle2000, lge2000, llt2000, lgt2000, lmu2000, lmv2000, lad2000, lsu2000, ldi2000, xle, hlt, hx1, hx2, sp_pdepth h hI hp, sp_pdepth h hI ho, sp_share d1.1 d1.2 d2.2, cvl, hg, hS, h2]
        exact st _ _
      · have st := st2 h2
        simp (disch := omega) only [e71_40, e71_42, e71_45, e71_45n, e71_46, e71_48, e71_51, e71_52, e71_52n, e71_54, e71_56, e71_59, e71_60, e71_63, e71_65, e71_67, e71_69, e71_70, e71_73, e71_75, e71_77, e71_78, e71_81, e71_83, e71_85, e71_86, e71_88, e71_90, e71_92, e71_93, e71_96, e71_98, e71_100, e71_102, e71_104, e71_107, xKv, xK0, xKx, xKHv, xKH0, xk_none, xk_i, xk_f, xk_l, xk_r, xk_n, xc_i, xc_f, xc_l, xc_d, xc_r, xc_n, xo_some, List.map_cons, List.map_nil, List.sum_cons, List.sum_nil, xnzn, xpn0, xpn1, xpnb, xpnn, i10, i00, true_imp_iff, false_imp_iff, not_true_eq_false, not_false_eq_true, true_and, and_true, implies_true, xnz0, xnz1, xnzb, xfz0, xfz1, xfzb, Option.isSome_some, if_true, if_false, xbF, xbT, and_false, false_and, Nat.zero_le, Nat.reduceEqDiff, Nat.reduceLeDiff, Nat.reduceAdd, Nat.reduceSub, xiT, xiF, pk_mul, nI_add, Nat.add_sub_cancel, lad0, leq0, lle0, lge0, llt0, lgt0, leq1, lle1, lge1, llt1, lgt1, lad1, lsu1, leq2, lle2, lge2, llt2, lgt2, lmu2, lmv2, lad2, lsu2, ldi2, leq3, lle3, lge3, llt3, lgt3, lmu3, lmv3, lad3, lsu3, ldi3, leq4, lle4, lge4, llt4, lgt4, lmu4, lmv4, lad4, lsu4, ldi4, leq5, lle5, lge5, llt5, lgt5, lmu5, lmv5, lad5, lsu5, ldi5, leq6, lle6, lge6, llt6, lgt6, lmu6, lmv6, lad6, lsu6, ldi6, leq8, lle8, lge8, llt8, lgt8, lmu8, lmv8, lad8, lsu8, ldi8, leq9, lle9, lge9, llt9, lgt9, lmu9, lmv9, lad9, lsu9, ldi9, leq10, lle10, lge10, llt10, lgt10, lmu10, lmv10, lad10, lsu10, ldi10, leq12, lle12, lge12, llt12, lgt12, lmu12, lmv12, lad12, lsu12, ldi12, leq20, lle20, lge20, llt20, lgt20, lmu20, lmv20, lad20, lsu20, ldi20, leq25, lle25, lge25, llt25, lgt25, lmu25, lmv25, lad25, lsu25, ldi25, leq30, lle30, lge30, llt30, lgt30, lmu30, lmv30, lad30, lsu30, ldi30, leq48, lle48, lge48, llt48, lgt48, lmu48, lmv48, lad48, lsu48, ldi48, leq50, lle50, lge50, llt50, lgt50, lmu50, lmv50, lad50, lsu50, ldi50, leq99, lle99, lge99, llt99, lgt99, lmu99, lmv99, lad99, lsu99, ldi99, leq100, lle100, lge100, llt100, lgt100, lmu100, lmv100, lad100, lsu100, ldi100, leq2000, lle2000, lge2000, llt2000, lgt2000, lmu2000, lmv2000, lad2000, lsu2000, ldi2000, xle, hlt, hx1, hx2, sp_pdepth h hI hp, sp_pdepth h hI ho, sp_share d1.1 d1.2 d2.2, cvl, hg, hS, h2]
        exact st _ _
theorem sp_c_mitre (h : CR κ A σ τ h0 ah) (hI : MI σ) (hL : LK σ τ) {a b : Int32} (hR : t_mitre σ a b = 0 → Ny κ A σ τ h0 R (some (.float (v_mitre σ a b)))) (h1 : t_mitre σ a b = 1 → R (.inr 2) ah) : xm κ 71 [.ref (A 0 0), .int a, .int b] ah R := by
  have hP := hI.P
  have hx10 : xis ah (A 0 0) 10 = True := xis_of h.x
  by_cases ha : xin a (σ 16 0)
  · obtain ⟨ja, hja, rfl⟩ := xin_of (by omega) ha
    by_cases hb : xin b (σ 16 0)
    · obtain ⟨jb, hjb, rfl⟩ := xin_of (by omega) hb
      have ht : t_mitre σ (nI ja) (nI jb) = 0 := xi_t ⟨ha, hb⟩
      have hg := hR ht
      unfold v_mitre at hg
      rw [xi_t ht, nI_cl (by omega), nI_cl (by omega)] at hg
      have hx1 : xis ah (A 20 ja) 7 = True := xis_of (h.prof hja)
      have hx2 : xis ah (A 20 jb) 7 = True := xis_of (h.prof hjb)
      have b1 := hI.w17 (p := ja) (by omega)
      have b2 := hI.w17 (p := jb) (by omega)
      have em : (if nI (σ 17 ja) < nI (σ 17 jb) then nI (σ 17 jb) else nI (σ 17 ja)) = nI (if σ 17 ja ≤ σ 17 jb then σ 17 jb else σ 17 ja) := by
        by_cases q : σ 17 ja < σ 17 jb
        · rw [if_pos (nI_lt q (by omega)), if_pos (by omega)]
        · rw [if_neg (nI_nlt (by omega) (by omega))]
          by_cases q2 : σ 17 ja ≤ σ 17 jb
          · rw [if_pos q2]
            have : σ 17 ja = σ 17 jb := by omega
            rw [this]
          · rw [if_neg q2]
      have hle : (if σ 17 ja ≤ σ 17 jb then σ 17 jb else σ 17 ja) ≤ 8 := by split <;> omega
      have cats : (List.map Value.category ([] : List Value)).sum ≤ 8 := by decide
      rw [en71]
      simp (disch := omega) only [e71_0, e71_0n, e71_1, e71_2, e71_5, e71_5n, e71_6, e71_6n, e71_7, e71_8, e71_11, e71_11n, e71_13, e71_13n, e71_14, e71_17, e71_17n, e71_19, xKv, xK0, xKx, xKHv, xKH0, xk_none, xk_i, xk_f, xk_l, xk_r, xk_n, xc_i, xc_f, xc_l, xc_d, xc_r, xc_n, xo_some, List.map_cons, List.map_nil, List.sum_cons, List.sum_nil, xnzn, xpn0, xpn1, xpnb, xpnn, i10, i00, true_imp_iff, false_imp_iff, not_true_eq_false, not_false_eq_true, true_and, and_true, implies_true, xnz0, xnz1, xnzb, xfz0, xfz1, xfzb, Option.isSome_some, if_true, if_false, xbF, xbT, and_false, false_and, Nat.zero_le, Nat.reduceEqDiff, Nat.reduceLeDiff, Nat.reduceAdd, Nat.reduceSub, xiT, xiF, pk_mul, nI_add, Nat.add_sub_cancel, lad0, leq0, lle0, lge0, llt0, lgt0, leq1, lle1, lge1, llt1, lgt1, lad1, lsu1, leq2, lle2, lge2, llt2, lgt2, lmu2, lmv2, lad2, lsu2, ldi2, leq3, lle3, lge3, llt3, lgt3, lmu3, lmv3, lad3, lsu3, ldi3, leq4, lle4, lge4, llt4, lgt4, lmu4, lmv4, lad4, lsu4, ldi4, leq5, lle5, lge5, llt5, lgt5, lmu5, lmv5, lad5, lsu5, ldi5, leq6, lle6, lge6, llt6, lgt6, lmu6, lmv6, lad6, lsu6, ldi6, leq8, lle8, lge8, llt8, lgt8, lmu8, lmv8, lad8, lsu8, ldi8, leq9, lle9, lge9, llt9, lgt9, lmu9, lmv9, lad9, lsu9, ldi9, leq10, lle10, lge10, llt10, lgt10, lmu10, lmv10, lad10, lsu10, ldi10, leq12, lle12, lge12, llt12, lgt12, lmu12, lmv12, lad12, lsu12, ldi12, leq20, lle20, lge20, llt20, lgt20, lmu20, lmv20, lad20, lsu20, ldi20, leq25, lle25, lge25, llt25, lgt25, lmu25, lmv25, lad25, lsu25, ldi25, leq30, lle30, lge30, llt30, lgt30, lmu30, lmv30, lad30, lsu30, ldi30, leq48, lle48, lge48, llt48, lgt48, lmu48, lmv48, lad48, lsu48, ldi48, leq50, lle50, lge50, llt50, lgt50, lmu50, lmv50, lad50, lsu50, ldi50, leq99, lle99, lge99, llt99, lgt99, lmu99, lmv99, lad99, lsu99, ldi99, leq100, lle100, lge100, llt100, lgt100, lmu100, lmv100, lad100, lsu100, ldi100, leq2000, lle2000, lge2000, llt2000, lgt2000, lmu2000, lmv2000, lad2000, lsu2000, ldi2000, hx10, sp_pn1 h hI hja, sp_pn1 h hI hjb, hx1, hx2, sp_pcount h hja, sp_pcount h hjb]
      rw [e71_22]
      refine ⟨by decide, ?_⟩
      rw [em]
      simp (disch := omega) only [e71_25, e71_27, e71_29, e71_31, e71_33, e71_35, e71_36, xKv, xK0, xKx, xKHv, xKH0, xk_none, xk_i, xk_f, xk_l, xk_r, xk_n, xc_i, xc_f, xc_l, xc_d, xc_r, xc_n, xo_some, List.map_cons, List.map_nil, List.sum_cons, List.sum_nil, xnzn, xpn0, xpn1, xpnb, xpnn, i10, i00, true_imp_iff, false_imp_iff, not_true_eq_false, not_false_eq_true, true_and, and_true, implies_true, xnz0, xnz1, xnzb, xfz0, xfz1, xfzb, Option.isSome_some, if_true, if_false, xbF, xbT, and_false, false_and, Nat.zero_le, Nat.reduceEqDiff, Nat.reduceLeDiff, Nat.reduceAdd, Nat.reduceSub, xiT, xiF, pk_mul, nI_add, Nat.add_sub_cancel, lad0, leq0, lle0, lge0, llt0, lgt0, leq1, lle1, lge1, llt1, lgt1, lad1, lsu1, leq2, lle2, lge2, llt2, lgt2, lmu2, lmv2, lad2, lsu2, ldi2, leq3, lle3, lge3, llt3, lgt3, lmu3, lmv3, lad3, lsu3, ldi3, leq4, lle4, lge4, llt4, lgt4, lmu4, lmv4, lad4, lsu4, ldi4, leq5, lle5, lge5, llt5, lgt5, lmu5, lmv5, lad5, lsu5, ldi5, leq6, lle6, lge6, llt6, lgt6, lmu6, lmv6, lad6, lsu6, ldi6, leq8, lle8, lge8, llt8, lgt8, lmu8, lmv8, lad8, lsu8, ldi8, leq9, lle9, lge9, llt9, lgt9, lmu9, lmv9, lad9, lsu9, ldi9, leq10, lle10, lge10, llt10, lgt10, lmu10, lmv10, lad10, lsu10, ldi10, leq12, lle12, lge12, llt12, lgt12, lmu12, lmv12, lad12, lsu12, ldi12, leq20, lle20, lge20, llt20, lgt20, lmu20, lmv20, lad20, lsu20, ldi20, leq25, lle25, lge25, llt25, lgt25, lmu25, lmv25, lad25, lsu25, ldi25, leq30, lle30, lge30, llt30, lgt30, lmu30, lmv30, lad30, lsu30, ldi30, leq48, lle48, lge48, llt48, lgt48, lmu48, lmv48, lad48, lsu48, ldi48, leq50, lle50, lge50, llt50, lgt50, lmu50, lmv50, lad50, lsu50, ldi50, leq99, lle99, lge99, llt99, lgt99, lmu99, lmv99, lad99, lsu99, ldi99, leq100, lle100, lge100, llt100, lgt100, lmu100, lmv100, lad100, lsu100, ldi100, leq2000, lle2000, lge2000, llt2000, lgt2000, lmu2000, lmv2000, lad2000, lsu2000, ldi2000]
      exact lp_cmitre h hI hja hjb hle _ 0 _ _ _ _ (Nat.zero_add _) (h.same hL hg)
    · have ht : t_mitre σ (nI ja) b = 1 := xi_f (fun q => hb q.2)
      simp (disch := omega) only [e71_0, e71_0n, e71_1, e71_2, e71_5, e71_5n, e71_6, e71_6n, e71_7, e71_8, e71_11, e71_11n, e71_13, e71_13n, e71_14, e71_17, e71_17n, e71_19, en71, xKv, xK0, xKx, xKHv, xKH0, xk_none, xk_i, xk_f, xk_l, xk_r, xk_n, xc_i, xc_f, xc_l, xc_d, xc_r, xc_n, xo_some, List.map_cons, List.map_nil, List.sum_cons, List.sum_nil, xnzn, xpn0, xpn1, xpnb, xpnn, i10, i00, true_imp_iff, false_imp_iff, not_true_eq_false, not_false_eq_true, true_and, and_true, implies_true, xnz0, xnz1, xnzb, xfz0, xfz1, xfzb, Option.isSome_some, if_true, if_false, xbF, xbT, and_false, false_and, Nat.zero_le, Nat.reduceEqDiff, Nat.reduceLeDiff, Nat.reduceAdd, Nat.reduceSub, xiT, xiF, pk_mul, nI_add, Nat.add_sub_cancel, lad0, leq0, lle0, lge0, llt0, lgt0, leq1, lle1, lge1, llt1, lgt1, lad1, lsu1, leq2, lle2, lge2, llt2, lgt2, lmu2, lmv2, lad2, lsu2, ldi2, leq3, lle3, lge3, llt3, lgt3, lmu3, lmv3, lad3, lsu3, ldi3, leq4, lle4, lge4, llt4, lgt4, lmu4, lmv4, lad4, lsu4, ldi4, leq5, lle5, lge5, llt5, lgt5, lmu5, lmv5, lad5, lsu5, ldi5, leq6, lle6, lge6, llt6, lgt6, lmu6, lmv6, lad6, lsu6, ldi6, leq8, lle8, lge8, llt8, lgt8, lmu8, lmv8, lad8, lsu8, ldi8, leq9, lle9, lge9, llt9, lgt9, lmu9, lmv9, lad9, lsu9, ldi9, leq10, lle10, lge10, llt10, lgt10, lmu10, lmv10, lad10, lsu10, ldi10, leq12, lle12, lge12, llt12, lgt12, lmu12, lmv12, lad12, lsu12, ldi12, leq20, lle20, lge20, llt20, lgt20, lmu20, lmv20, lad20, lsu20, ldi20, leq25, lle25, lge25, llt25, lgt25, lmu25, lmv25, lad25, lsu25, ldi25, leq30, lle30, lge30, llt30, lgt30, lmu30, lmv30, lad30, lsu30, ldi30, leq48, lle48, lge48, llt48, lgt48, lmu48, lmv48, lad48, lsu48, ldi48, leq50, lle50, lge50, llt50, lgt50, lmu50, lmv50, lad50, lsu50, ldi50, leq99, lle99, lge99, llt99, lgt99, lmu99, lmv99, lad99, lsu99, ldi99, leq100, lle100, lge100, llt100, lgt100, lmu100, lmv100, lad100, lsu100, ldi100, leq2000, lle2000, lge2000, llt2000, lgt2000, lmu2000, lmv2000, lad2000, lsu2000, ldi2000, hx10, sp_pn1 h hI hja, sp_pn0 h hI hb]
      exact h1 ht
  · have ht : t_mitre σ a b = 1 := xi_f (fun q => ha q.1)
    simp (disch := omega) only [e71_0, e71_0n, e71_1, e71_2, e71_5, e71_5n, e71_6, e71_6n, e71_7, e71_8, e71_11, e71_11n, e71_13, e71_13n, e71_14, e71_17, e71_17n, e71_19, en71, xKv, xK0, xKx, xKHv, xKH0, xk_none, xk_i, xk_f, xk_l, xk_r, xk_n, xc_i, xc_f, xc_l, xc_d, xc_r, xc_n, xo_some, List.map_cons, List.map_nil, List.sum_cons, List.sum_nil, xnzn, xpn0, xpn1, xpnb, xpnn, i10, i00, true_imp_iff, false_imp_iff, not_true_eq_false, not_false_eq_true, true_and, and_true, implies_true, xnz0, xnz1, xnzb, xfz0, xfz1, xfzb, Option.isSome_some, if_true, if_false, xbF, xbT, and_false, false_and, Nat.zero_le, Nat.reduceEqDiff, Nat.reduceLeDiff, Nat.reduceAdd, Nat.reduceSub, xiT, xiF, pk_mul, nI_add, Nat.add_sub_cancel, lad0, leq0, lle0, lge0, llt0, lgt0, leq1, lle1, lge1, llt1, lgt1, lad1, lsu1, leq2, lle2, lge2, llt2, lgt2, lmu2, lmv2, lad2, lsu2, ldi2, leq3, lle3, lge3, llt3, lgt3, lmu3, lmv3, lad3, lsu3, ldi3, leq4, lle4, lge4, llt4, lgt4, lmu4, lmv4, lad4, lsu4, ldi4, leq5, lle5, lge5, llt5, lgt5, lmu5, lmv5, lad5, lsu5, ldi5, leq6, lle6, lge6, llt6, lgt6, lmu6, lmv6, lad6, lsu6, ldi6, leq8, lle8, lge8, llt8, lgt8, lmu8, lmv8, lad8, lsu8, ldi8, leq9, lle9, lge9, llt9, lgt9, lmu9, lmv9, lad9, lsu9, ldi9, leq10, lle10, lge10, llt10, lgt10, lmu10, lmv10, lad10, lsu10, ldi10, leq12, lle12, lge12, llt12, lgt12, lmu12, lmv12, lad12, lsu12, ldi12, leq20, lle20, lge20, llt20, lgt20, lmu20, lmv20, lad20, lsu20, ldi20, leq25, lle25, lge25, llt25, lgt25, lmu25, lmv25, lad25, lsu25, ldi25, leq30, lle30, lge30, llt30, lgt30, lmu30, lmv30, lad30, lsu30, ldi30, leq48, lle48, lge48, llt48, lgt48, lmu48, lmv48, lad48, lsu48, ldi48, leq50, lle50, lge50, llt50, lgt50, lmu50, lmv50, lad50, lsu50, ldi50, leq99, lle99, lge99, llt99, lgt99, lmu99, lmv99, lad99, lsu99, ldi99, leq100, lle100, lge100, llt100, lgt100, lmu100, lmv100, lad100, lsu100, ldi100, leq2000, lle2000, lge2000, llt2000, lgt2000, lmu2000, lmv2000, lad2000, lsu2000, ldi2000, hx10, sp_pn0 h hI ha]
    exact h1 ht
end

