/-! the class's calls: profile, mitre -/
section
variable {κ : Nat → Nat} {R : xR → xH → Prop} {A σ τ : xS} {h0 ah : xH} {p : Nat}
theorem CR.addP (h : CR κ A σ τ h0 ah) (hI : MI σ) {d x y e' M : Nat} (hx : ah x = none) (hy : ah y = none) (hxy : y ≠ x) {ah' : xH} {n : Nat} (hn : σ 16 0 = n)
    (hc : (e' = rwA κ A τ 6 0 ∧ ¬ τ 7 0 = 0) ∨ (xup (xup ah y (.inl (0, 8, .inl (upd (fun _ => 0) 0 (nI d))))) x (.inr (7, [.ref y, .int 1]))) e' = none) (hM : M ∈ caps) (hM2 : n + 1 ≤ M)
    (h1 : ah' (A 6 0) = some (lcell (nI (τ 6 0) + 1) e' (n + 1)))
    (h2 : ah' e' = some (rcell M (n + 1) (fun i => if i = n then x else A 20 i))) (hne : A 6 0 ≠ e')
    (h3 : ∀ a, a ≠ A 6 0 → a ≠ e' → ah' a = xup (xup ah y (.inl (0, 8, .inl (upd (fun _ => 0) 0 (nI d))))) x (.inr (7, [.ref y, .int 1])) a) :
    CR κ (su (su (su A 21 n y) 20 n x) 7 0 e') (su (su (su σ 18 (8 * n) d) 17 n 1) 16 0 (n + 1)) (su (su τ 7 0 M) 6 0 (τ 6 0 + 1)) h0 ah' := by
  have hM0 := caps_le M hM
  have g0 := h.1.nw (k := 21) (i := n) hy (show ¬ n < σ 16 0 by omega) (.inl (0, 8, .inl (upd (fun _ => 0) 0 (nI d))))
  have g1 := g0.nw (k := 20) (i := n) (x := x) (by rw [xup_ne _ _ (fun q => hxy q.symm)]; exact hx) (fun q => q.elim (fun q => absurd q.1 (by decide)) (show ¬ n < σ 16 0 by omega)) (.inr (7, [.ref y, .int 1]))
  have eA : su (su A 21 n y) 20 n x 6 0 = A 6 0 := by rw [su_nr (by decide), su_nr (by decide)]
  have eA8 : su (su A 21 n y) 20 n x 7 0 = A 7 0 := by rw [su_nr (by decide), su_nr (by decide)]
  have g2 := g1.ladd (k := 6) (i := 0) (e' := e') (ah' := ah') (Or.inr (Or.inr rfl)) (hc.imp (fun q => ⟨by rw [eA8, q.1]; exact rwA_ne q.2, Or.inr (Or.inr ⟨rfl, q.2⟩)⟩) id) (by rw [eA]; exact h1) h2 (by rw [eA]; exact hne) (fun b q1 q2 => by rw [eA] at q1; exact h3 b q1 q2)
  have lsv : ∀ b, sv (su (su (su σ 18 (8 * n) d) 17 n 1) 16 0 (n + 1)) b = sv σ b := fun b => by rw [sv_row (by decide), sv_row (by decide), sv_row (by decide)]
  refine ⟨g2.cg (fun k' i' hu => ?_) (fun _ _ _ => rfl) (fun k' i' hu => ?_), ?_⟩
  · by_cases e7 : k' = 7
    · subst e7
      exact Or.inl ⟨rfl, hu.1⟩
    · by_cases e20 : k' = 20
      · subst e20
        have q : i' < su (su (su σ 18 (8 * n) d) 17 n 1) 16 0 (n + 1) 16 0 := hu
        rw [su_eq] at q
        by_cases ei : i' = n
        · exact Or.inr (Or.inl ⟨rfl, ei⟩)
        · refine Or.inr (Or.inr (Or.inr ?_))
          show i' < σ 16 0
          omega
      · by_cases e21 : k' = 21
        · subst e21
          have q : i' < su (su (su σ 18 (8 * n) d) 17 n 1) 16 0 (n + 1) 16 0 := hu
          rw [su_eq] at q
          by_cases ei : i' = n
          · exact Or.inr (Or.inr (Or.inl ⟨rfl, ei⟩))
          · refine Or.inr (Or.inr (Or.inr ?_))
            show i' < σ 16 0
            omega
        · refine Or.inr (Or.inr (Or.inr ?_))
          unfold cU at hu ⊢
          split at hu <;> first | exact hu | (simp (disch := omega) only [su_nr, lsv] at hu ⊢ <;> first | exact hu | omega) | omega
  · unfold cu
    by_cases e6 : k' = 6 ∧ i' = 0
    · obtain ⟨rfl, rfl⟩ := e6
      rw [if_pos ⟨rfl, rfl⟩]
      show lcell _ (rwA _ _ _ 6 0) _ = _
      rw [rwA_ne (by simp (disch := omega) only [su_ne, su_eq]; omega)]
      simp (disch := omega) only [su_ne, su_eq, nI_succ]
    · rw [if_neg e6]
      by_cases e7 : k' = 7 ∧ i' = 0
      · obtain ⟨rfl, rfl⟩ := e7
        rw [if_pos ⟨rfl, rfl⟩]
        show rcell _ _ _ = _
        simp (disch := omega) only [su_ne, su_eq]
        refine rcell_cg (fun j hj => ?_)
        by_cases ej : j = n
        · subst ej; rw [su_eq, if_pos rfl]
        · rw [if_neg ej, su_ne (by omega), su_ne (by omega)]
      · rw [if_neg e7]
        by_cases e20 : k' = 20
        · subst e20
          by_cases ei : i' = n
          · subst ei
            rw [if_pos ⟨rfl, rfl⟩]
            unfold cC
            simp (disch := omega) only [su_ne, su_eq]
            rfl
          · rw [if_neg (fun q => ei q.2), if_neg (fun q => absurd q.1 (by decide))]
            unfold cC
            simp (disch := omega) only [su_ne]
        · rw [if_neg (fun q => e20 q.1)]
          by_cases e21 : k' = 21
          · subst e21
            by_cases ei : i' = n
            · subst ei
              rw [if_pos ⟨rfl, rfl⟩]
              show (Sum.inl (0, 8, .inl (fun j => if j < su (su (su σ 18 (8 * i') d) 17 i' 1) 16 0 (i' + 1) 17 i' then nI (su (su (su σ 18 (8 * i') d) 17 i' 1) 16 0 (i' + 1) 18 (8 * i' + j)) else 0)) : xO) = _
              congr 4
              funext j
              rw [su_nr (by decide), su_eq, su_nr (by decide), su_nr (by decide)]
              by_cases ej : j = 0
              · subst ej
                rw [if_pos (by decide), Nat.add_zero, su_eq, pk_us]
              · rw [if_neg (by omega), pk_un ej]
            · have q : i' < su (su (su σ 18 (8 * n) d) 17 n 1) 16 0 (n + 1) 16 0 := hu
              rw [su_eq] at q
              rw [if_neg (fun q => ei q.2)]
              show (Sum.inl (0, 8, .inl (fun j => if j < su (su (su σ 18 (8 * n) d) 17 n 1) 16 0 (n + 1) 17 i' then nI (su (su (su σ 18 (8 * n) d) 17 n 1) 16 0 (n + 1) 18 (8 * i' + j)) else 0)) : xO) = Sum.inl (0, 8, .inl (fun j => if j < σ 17 i' then nI (σ 18 (8 * i' + j)) else 0))
              congr 4
              funext j
              have hP := hI.P
              have h17 := hI.w17 (p := i') (by omega)
              by_cases ej : j < σ 17 i'
              · simp (disch := omega) only [su_ne, if_pos ej]
              · simp (disch := omega) only [su_ne, if_neg ej]
          · rw [if_neg (fun q => e21 q.1)]
            have k6 : k' ≠ 6 := fun q => e6 ⟨q, by subst q; exact hu⟩
            have k7 : k' ≠ 7 := fun q => e7 ⟨q, by subst q; exact hu.1⟩
            rw [cC_A (rfsN_7 k6), cC_A (rfsN_20 k7), cC_A (rfsN_21 e20), cC_rowT (rwTN_6 k6), cC_rowT (rwTN_7 ⟨k6, k7⟩), cC_row (rwsN_16 ⟨k6, k7⟩), cC_row (rwsN_17 ⟨e20, e21⟩), cC_row (rwsN_18 e21)]
  · obtain ⟨w1, w2, w3, w4, w5, w6⟩ := h.2
    unfold CW
    simp (disch := omega) only [su_nr, su_eq, lsv]
    exact ⟨w1, w2, Or.inr ⟨hM2, hM⟩, w4, w5, w6⟩
theorem sp_profInit {x d : Nat} (hc : ah x = some (.inr (7, [.null, .int 0]))) (hR : ∀ y, ah y = none → R (.inl none) (xup (xup ah y (.inl (0, 8, .inl (upd (fun _ => 0) 0 (nI d))))) x (.inr (7, [.ref y, .int 1])))) : xm κ 25 [.ref x, .int (nI d)] ah R := by
  rw [en25, e25_0, e25_1, e25_4, e25_5, e25_7]
  refine ⟨⟨by decide +kernel, by decide +kernel⟩, by decide, by decide +kernel, fun y hy => ?_⟩
  have hyx : x ≠ y := xis_ne hc hy
  have e8 : (8 : Int32).toNatClampNeg = 8 := by decide +kernel
  rw [e8]
  have h1 : xup ah y (.inl (0, 8, .inl fun _ => 0)) x = some (.inr (7, [.null, .int 0])) := by rw [xup_ne _ _ hyx]; exact hc
  have f1 : (xfld (xup ah y (.inl (0, 8, .inl fun _ => 0))) x 7 0).isSome = true := by rw [xfld_of h1]; rfl
  have x1 : xput (xup ah y (.inl (0, 8, .inl fun _ => 0))) x 0 (.ref y) = xup (xup ah y (.inl (0, 8, .inl fun _ => 0))) x (.inr (7, [.ref y, .int 0])) := xput_of h1
  have h2 : xup (xup ah y (.inl (0, 8, .inl fun _ => 0))) x (.inr (7, [.ref y, .int 0])) x = some (.inr (7, [.ref y, .int 0])) := xup_self _ _ _
  have f2 : xfld (xup (xup ah y (.inl (0, 8, .inl fun _ => 0))) x (.inr (7, [.ref y, .int 0]))) x 7 0 = some (.ref y) := xfld_of h2
  have h3 : xup (xup ah y (.inl (0, 8, .inl fun _ => 0))) x (.inr (7, [.ref y, .int 0])) y = some (.inl (0, 8, .inl fun _ => 0)) := by rw [xup_ne _ _ (fun q => hyx q.symm), xup_self]
  have fa := xai_of h3
  have i8 : vp_in 0 8 = True := xin_nI (i := 0) (N := 8) (by decide) (by decide)
  have e0 : (0 : Int32).toNatClampNeg = 0 := by decide +kernel
  have hne2 : y ≠ x := fun q => hyx q.symm
  have x2 : xup (xup (xup ah y (.inl (0, 8, .inl fun _ => 0))) x (.inr (7, [.ref y, .int 0]))) y (.inl (0, 8, .inl (upd (fun _ => 0) 0 (nI d)))) = xup (xup ah y (.inl (0, 8, .inl (upd (fun _ => 0) 0 (nI d))))) x (.inr (7, [.ref y, .int 0])) := by
    rw [xup_cm hyx, xup_xup]
  have h4 : xup (xup ah y (.inl (0, 8, .inl (upd (fun _ => 0) 0 (nI d))))) x (.inr (7, [.ref y, .int 0])) x = some (.inr (7, [.ref y, .int 0])) := xup_self _ _ _
  have f4 : (xfld (xup (xup ah y (.inl (0, 8, .inl (upd (fun _ => 0) 0 (nI d))))) x (.inr (7, [.ref y, .int 0]))) x 7 1).isSome = true := by rw [xfld_of h4]; rfl
  have x4 : xput (xup (xup ah y (.inl (0, 8, .inl (upd (fun _ => 0) 0 (nI d))))) x (.inr (7, [.ref y, .int 0]))) x 1 (.int 1) = xup (xup ah y (.inl (0, 8, .inl (upd (fun _ => 0) 0 (nI d))))) x (.inr (7, [.ref y, .int 1])) := by rw [xput_of h4, xup_xup]; rfl
  simp (disch := omega) only [e25_9, e25_12, e25_12n, e25_13, e25_16, e25_17, e25_18, e25_19, e25_19n, e25_20, e25_21, e25_24, xKv, xK0, xKx, xKHv, xKH0, xk_none, xk_i, xk_f, xk_l, xk_r, xk_n, xc_i, xc_f, xc_l, xc_d, xc_r, xc_n, xo_some, List.map_cons, List.map_nil, List.sum_cons, List.sum_nil, xnzn, xpn0, xpn1, xpnb, xpnn, i10, i00, true_imp_iff, false_imp_iff, not_true_eq_false, not_false_eq_true, true_and, and_true, implies_true, xnz0, xnz1, xnzb, xfz0, xfz1, xfzb, Option.isSome_some, if_true, if_false, xbF, xbT, and_false, false_and, Nat.zero_le, Nat.reduceEqDiff, Nat.reduceLeDiff, Nat.reduceAdd, Nat.reduceSub, xiT, xiF, f1, x1, f2, fa, i8, e0, x2, f4, x4]
  exact hR y hy
theorem sp_c_profile (h : CR κ A σ τ h0 ah) (hI : MI σ) (hL : LK σ τ) {a : Int32} (hR : t_profile σ a = 0 → Ny κ A (s_profile σ a) τ h0 R (some (.int (v_profile σ a)))) (h1 : t_profile σ a = 1 → R (.inr 0) ah) (h2 : t_profile σ a = 2 → R (.inr 1) ah) : xm κ 67 [.ref (A 0 0), .int a] ah R := by
  have hP := hI.P
  by_cases ha : xrg a 1 100
  · obtain ⟨d, hd1, hd2, rfl⟩ := xrg_of (by decide) ha
    have hx := h.x
    have f2 : xfld ah (A 0 0) 10 2 = some (.ref (A 6 0)) := xfld_of hx
    have hx6 : xis ah (A 6 0) 1 = True := xis_of h.profsL.1
    by_cases hb : σ 16 0 = 10
    · have ht : t_profile σ (nI d) = 2 := by unfold t_profile; rw [xi_t ha, xi_t hb]
      have l1 : (nI (σ 16 0) < 10) = False := by rw [llt10 (by omega)]; exact eq_false (by omega)
      simp (disch := omega) only [e67_0, e67_1, e67_4, e67_4n, e67_5, e67_8, e67_11, e67_13, e67_16, en67, xKv, xK0, xKx, xKHv, xKH0, xk_none, xk_i, xk_f, xk_l, xk_r, xk_n, xc_i, xc_f, xc_l, xc_d, xc_r, xc_n, xo_some, List.map_cons, List.map_nil, List.sum_cons, List.sum_nil, xnzn, xpn0, xpn1, xpnb, xpnn, i10, i00, true_imp_iff, false_imp_iff, not_true_eq_false, not_false_eq_true, true_and, and_true, implies_true, xnz0, xnz1, xnzb, xfz0, xfz1, xfzb, Option.isSome_some, if_true, if_false, xbF, xbT, and_false, false_and, Nat.zero_le, Nat.reduceEqDiff, Nat.reduceLeDiff, Nat.reduceAdd, Nat.reduceSub, xiT, xiF, pk_mul, nI_add, Nat.add_sub_cancel, lad0, leq0, lle0, lge0, llt0, lgt0, leq1, lle1, lge1, llt1, lgt1, lad1, lsu1, leq2, lle2, lge2, llt2, lgt2, lmu2, lmv2, lad2, lsu2, ldi2, leq3, lle3, lge3, llt3, lgt3, lmu3, lmv3, lad3, lsu3, ldi3, leq4, lle4, lge4, llt4, lgt4, lmu4, lmv4, lad4, lsu4, ldi4, leq5, lle5, lge5, llt5, lgt5, lmu5, lmv5, lad5, lsu5, ldi5, leq6, lle6, lge6, llt6, lgt6, lmu6, lmv6, lad6, lsu6, ldi6, leq8, lle8, lge8, llt8, lgt8, lmu8, lmv8, lad8, lsu8, ldi8, leq9, lle9, lge9, llt9, lgt9, lmu9, lmv9, lad9, lsu9, ldi9, leq10, lle10, lge10, llt10, lgt10, lmu10, lmv10, lad10, lsu10, ldi10, leq12, lle12, lge12, llt12, lgt12, lmu12, lmv12, lad12, lsu12, ldi12, leq20, lle20, lge20, llt20, lgt20, lmu20, lmv20, lad20, lsu20, ldi20, leq25, lle25, lge25, llt25, lgt25, lmu25, lmv25, lad25, lsu25, ldi25, leq30, lle30, lge30, llt30, lgt30, lmu30, lmv30, lad30, lsu30, ldi30, leq48, lle48, lge48, llt48, lgt48, lmu48, lmv48, lad48, lsu48, ldi48, leq50, lle50, lge50, llt50, lgt50, lmu50, lmv50, lad50, lsu50, ldi50, leq99, lle99, lge99, llt99, lgt99, lmu99, lmv99, lad99, lsu99, ldi99, leq100, lle100, lge100, llt100, lgt100, lmu100, lmv100, lad100, lsu100, ldi100, leq2000, lle2000, lge2000, llt2000, lgt2000, lmu2000, lmv2000, lad2000, lsu2000, ldi2000, sp_td1 hd1 hd2, f2, hx6, sp_lsize h.profsL.1, ltF]
      exact h2 ht
    · have ht : t_profile σ (nI d) = 0 := by unfold t_profile; rw [xi_t ha, xi_f hb]
      have hg := hR ht
      unfold s_profile v_profile at hg
      rw [xi_t ht, xi_t ht, nI_cl (by omega)] at hg
      simp (disch := omega) only [e67_0, e67_1, e67_4, e67_4n, e67_5, e67_8, e67_11, e67_13, e67_16, e67_26, e67_26n, e67_27, en67, xKv, xK0, xKx, xKHv, xKH0, xk_none, xk_i, xk_f, xk_l, xk_r, xk_n, xc_i, xc_f, xc_l, xc_d, xc_r, xc_n, xo_some, List.map_cons, List.map_nil, List.sum_cons, List.sum_nil, xnzn, xpn0, xpn1, xpnb, xpnn, i10, i00, true_imp_iff, false_imp_iff, not_true_eq_false, not_false_eq_true, true_and, and_true, implies_true, xnz0, xnz1, xnzb, xfz0, xfz1, xfzb, Option.isSome_some, if_true, if_false, xbF, xbT, and_false, false_and, Nat.zero_le, Nat.reduceEqDiff, Nat.reduceLeDiff, Nat.reduceAdd, Nat.reduceSub, xiT, xiF, pk_mul, nI_add, Nat.add_sub_cancel, lad0, leq0, lle0, lge0, llt0, lgt0, leq1, lle1, lge1, llt1, lgt1, lad1, lsu1, leq2, lle2, lge2, llt2, lgt2, lmu2, lmv2, lad2, lsu2, ldi2, leq3, lle3, lge3, llt3, lgt3, lmu3, lmv3, lad3, lsu3, ldi3, leq4, lle4, lge4, llt4, lgt4, lmu4, lmv4, lad4, lsu4, ldi4, leq5, lle5, lge5, llt5, lgt5, lmu5, lmv5, lad5, lsu5, ldi5, leq6, lle6, lge6, llt6, lgt6, lmu6, lmv6, lad6, lsu6, ldi6, leq8, lle8, lge8, llt8, lgt8, lmu8, lmv8, lad8, lsu8, ldi8, leq9, lle9, lge9, llt9, lgt9, lmu9, lmv9, lad9, lsu9, ldi9, leq10, lle10, lge10, llt10, lgt10, lmu10, lmv10, lad10, lsu10, ldi10, leq12, lle12, lge12, llt12, lgt12, lmu12, lmv12, lad12, lsu12, ldi12, leq20, lle20, lge20, llt20, lgt20, lmu20, lmv20, lad20, lsu20, ldi20, leq25, lle25, lge25, llt25, lgt25, lmu25, lmv25, lad25, lsu25, ldi25, leq30, lle30, lge30, llt30, lgt30, lmu30, lmv30, lad30, lsu30, ldi30, leq48, lle48, lge48, llt48, lgt48, lmu48, lmv48, lad48, lsu48, ldi48, leq50, lle50, lge50, llt50, lgt50, lmu50, lmv50, lad50, lsu50, ldi50, leq99, lle99, lge99, llt99, lgt99, lmu99, lmv99, lad99, lsu99, ldi99, leq100, lle100, lge100, llt100, lgt100, lmu100, lmv100, lad100, lsu100, ldi100, leq2000, lle2000, lge2000, llt2000, lgt2000, lmu2000, lmv2000, lad2000, lsu2000, ldi2000, sp_td1 hd1 hd2, f2, hx6, sp_lsize h.profsL.1, ltT]
      rw [e67_30]
      refine ⟨by decide, by decide, fun x hx0 => ?_⟩
      have hc0 : xup ah x (.inr (7, [.null, .int 0])) x = some (.inr (7, [.null, .int 0])) := xup_self _ _ _
      rw [e67_33, e67_34, e67_35]
      refine ⟨⟨show (1 + (1 + 0) : Nat) ≤ 8 from by decide, trivial, by decide, by decide⟩, sp_profInit hc0 (fun y hy => ?_)⟩
      have hxy : y ≠ x := fun q => by rw [q, hc0] at hy; cases hy
      have hy' : ah y = none := by rw [xup_ne _ _ hxy] at hy; exact hy
      have ex : xup (xup (xup ah x (.inr (7, [.null, .int 0]))) y (.inl (0, 8, .inl (upd (fun _ => 0) 0 (nI d))))) x (.inr (7, [.ref y, .int 1])) = xup (xup ah y (.inl (0, 8, .inl (upd (fun _ => 0) 0 (nI d))))) x (.inr (7, [.ref y, .int 1])) := by
        rw [xup_cm (fun q => hxy q.symm), xup_xup]
      rw [ex]
      have c1 := h.fresh hy' (.inl (0, 8, .inl (upd (fun _ => 0) 0 (nI d))))
      have c3 := c1.fresh (x := x) (by rw [xup_ne _ _ (fun q => hxy q.symm)]; exact hx0) (.inr (7, [.ref y, .int 1]))
      have hLL := c3.profsL
      show xW _ _ _ _
      rw [e67_38]
      refine ⟨⟨by decide, ⟨_, hLL.1⟩, by decide, by decide⟩, sp_ladd hLL (by omega) ⟨7, _, by decide, xup_self _ _ _⟩ (fun i hi => ⟨7, _, by decide, c3.prof hi⟩) (fun e' M ah' q1 q2 q3 q4 q5 q6 q7 => ?_)⟩
      have c4 := h.addP hI hx0 hy' hxy rfl q1 q2 q3 q4 q5 q6 q7
      have eA0 : su (su (su A 21 (σ 16 0) y) 20 (σ 16 0) x) 7 0 e' 0 0 = A 0 0 := by rw [su_nr (by decide), su_nr (by decide), su_nr (by decide)]
      have eA6 : su (su (su A 21 (σ 16 0) y) 20 (σ 16 0) x) 7 0 e' 6 0 = A 6 0 := by rw [su_nr (by decide), su_nr (by decide), su_nr (by decide)]
      have f2' : xfld ah' (A 0 0) 10 2 = some (.ref (A 6 0)) := by
        have := c4.x
        rw [eA0] at this
        rw [xfld_of this, ← eA6]
        rfl
      have hl' := c4.profsL
      rw [eA6] at hl'
      have hx6' : xis ah' (A 6 0) 1 = True := xis_of hl'.1
      have q := fun R => sp_lsize (κ := κ) (R := R) hl'.1
      rw [su_eq] at q
      show xW _ _ _ _
      rw [e67_41i]
      simp (disch := omega) only [e67_42, e67_42n, e67_43, e67_46, e67_49, e67_50, e67_51, xKv, xK0, xKx, xKHv, xKH0, xk_none, xk_i, xk_f, xk_l, xk_r, xk_n, xc_i, xc_f, xc_l, xc_d, xc_r, xc_n, xo_some, List.map_cons, List.map_nil, List.sum_cons, List.sum_nil, xnzn, xpn0, xpn1, xpnb, xpnn, i10, i00, true_imp_iff, false_imp_iff, not_true_eq_false, not_false_eq_true, true_and, and_true, implies_true, xnz0, xnz1, xnzb, xfz0, xfz1, xfzb, Option.isSome_some, if_true, if_false, xbF, xbT, and_false, false_and, Nat.zero_le, Nat.reduceEqDiff, Nat.reduceLeDiff, Nat.reduceAdd, Nat.reduceSub, xiT, xiF, pk_mul, nI_add, Nat.add_sub_cancel, lad0, leq0, lle0, lge0, llt0, lgt0, leq1, lle1, lge1, llt1, lgt1, lad1, lsu1, leq2, lle2, lge2, llt2, lgt2, lmu2, lmv2, lad2, lsu2, ldi2, leq3, lle3, lge3, llt3, lgt3, lmu3, lmv3, lad3, lsu3, ldi3, leq4, lle4, lge4, llt4, lgt4, lmu4, lmv4, lad4, lsu4, ldi4, leq5, lle5, lge5, llt5, lgt5, lmu5, lmv5, lad5, lsu5, ldi5, leq6, lle6, lge6, llt6, lgt6, lmu6, lmv6, lad6, lsu6, ldi6, leq8, lle8, lge8, llt8, lgt8, lmu8, lmv8, lad8, lsu8, ldi8, leq9, lle9, lge9, llt9, lgt9, lmu9, lmv9, lad9, lsu9, ldi9, leq10, lle10, lge10, llt10, lgt10, lmu10, lmv10, lad10, lsu10, ldi10, leq12, lle12, lge12, llt12, lgt12, lmu12, lmv12, lad12, lsu12, ldi12, leq20, lle20, lge20, llt20, lgt20, lmu20, lmv20, lad20, lsu20, ldi20, leq25, lle25, lge25, llt25, lgt25, lmu25, lmv25, lad25, lsu25, ldi25, leq30, lle30, lge30, llt30, lgt30, lmu30, lmv30, lad30, lsu30, ldi30, leq48, lle48, lge48, llt48, lgt48, lmu48, lmv48, lad48, lsu48, ldi48, leq50, lle50, lge50, llt50, lgt50, lmu50, lmv50, lad50, lsu50, ldi50, leq99, lle99, lge99, llt99, lgt99, lmu99, lmv99, lad99, lsu99, ldi99, leq100, lle100, lge100, llt100, lgt100, lmu100, lmv100, lad100, lsu100, ldi100, leq2000, lle2000, lge2000, llt2000, lgt2000, lmu2000, lmv2000, lad2000, lsu2000, ldi2000, f2', hx6', q]
      refine hg _ _ ah' c4 ?_ (by rw [su_nr (by decide), su_nr (by decide)]; omega) eA0
      have hL' := LK_row (LK_row (LK_row hL (c := 18) (i := 8 * σ 16 0) (v := d) (by decide)) (c := 17) (i := σ 16 0) (v := 1) (by decide)) (c := 16) (i := 0) (v := σ 16 0 + 1) (by decide)
      exact ⟨LKp_cg hL'.1 (fun _ _ _ => rfl) (fun i => by rw [su_nr (by decide), su_nr (by decide)]), LKg_cg hL'.2.1 (fun _ => rfl) (fun c i hc => by rw [su_nr (by omega), su_nr (by omega)]), LKf_cg hL'.2.2 (fun _ _ _ => rfl) (fun c i hc => by rw [su_nr (by omega), su_nr (by omega)])⟩
  · have ht : t_profile σ a = 1 := by unfold t_profile; rw [xi_f ha]
    simp (disch := omega) only [e67_0, e67_1, e67_4, e67_4n, e67_5, e67_8, e67_11, e67_13, e67_16, en67, xKv, xK0, xKx, xKHv, xKH0, xk_none, xk_i, xk_f, xk_l, xk_r, xk_n, xc_i, xc_f, xc_l, xc_d, xc_r, xc_n, xo_some, List.map_cons, List.map_nil, List.sum_cons, List.sum_nil, xnzn, xpn0, xpn1, xpnb, xpnn, i10, i00, true_imp_iff, false_imp_iff, not_true_eq_false, not_false_eq_true, true_and, and_true, implies_true, xnz0, xnz1, xnzb, xfz0, xfz1, xfzb, Option.isSome_some, if_true, if_false, xbF, xbT, and_false, false_and, Nat.zero_le, Nat.reduceEqDiff, Nat.reduceLeDiff, Nat.reduceAdd, Nat.reduceSub, xiT, xiF, pk_mul, nI_add, Nat.add_sub_cancel, lad0, leq0, lle0, lge0, llt0, lgt0, leq1, lle1, lge1, llt1, lgt1, lad1, lsu1, leq2, lle2, lge2, llt2, lgt2, lmu2, lmv2, lad2, lsu2, ldi2, leq3, lle3, lge3, llt3, lgt3, lmu3, lmv3, lad3, lsu3, ldi3, leq4, lle4, lge4, llt4, lgt4, lmu4, lmv4, lad4, lsu4, ldi4, leq5, lle5, lge5, llt5, lgt5, lmu5, lmv5, lad5, lsu5, ldi5, leq6, lle6, lge6, llt6, lgt6, lmu6, lmv6, lad6, lsu6, ldi6, leq8, lle8, lge8, llt8, lgt8, lmu8, lmv8, lad8, lsu8, ldi8, leq9, lle9, lge9, llt9, lgt9, lmu9, lmv9, lad9, lsu9, ldi9, leq10, lle10, lge10, llt10, lgt10, lmu10, lmv10, lad10, lsu10, ldi10, leq12, lle12, lge12, llt12, lgt12, lmu12, lmv12, lad12, lsu12, ldi12, leq20, lle20, lge20, llt20, lgt20, lmu20, lmv20, lad20, lsu20, ldi20, leq25, lle25, lge25, llt25, lgt25, lmu25, lmv25, lad25, lsu25, ldi25, leq30, lle30, lge30, llt30, lgt30, lmu30, lmv30, lad30, lsu30, ldi30, leq48, lle48, lge48, llt48, lgt48, lmu48, lmv48, lad48, lsu48, ldi48, leq50, lle50, lge50, llt50, lgt50, lmu50, lmv50, lad50, lsu50, ldi50, leq99, lle99, lge99, llt99, lgt99, lmu99, lmv99, lad99, lsu99, ldi99, leq100, lle100, lge100, llt100, lgt100, lmu100, lmv100, lad100, lsu100, ldi100, leq2000, lle2000, lge2000, llt2000, lgt2000, lmu2000, lmv2000, lad2000, lsu2000, ldi2000, sp_td0 ha]
    exact h1 ht
end

