/-! the class: a new wall, its loop and the call -/
def WI (A τ A' τ' : xS) (w x i : Nat) : Prop := (∀ k j, k ≠ 13 → k ≠ 14 → k ≠ 15 → k ≠ 16 → k ≠ 17 → A' k j = A k j) ∧ A' 13 w = x ∧ (∀ c j, c ≠ 14 → c ≠ 15 → c ≠ 17 → c ≠ 18 → τ' c j = τ c j) ∧ (∀ j, j ≠ w → τ' 15 j = τ 15 j) ∧ (∀ b, b / 12 ≠ w → τ' 18 b = τ 18 b) ∧ (∀ b, b / 12 = w → b % 12 < i → τ' 18 b = 0)
section
variable {κ : Nat → Nat} {R : xR → xH → Prop} {A σ τ : xS} {h0 ah : xH}
theorem PWR.fresh {w g i x : Nat} (h : PWR κ A σ τ w g i h0 ah) (hx : ah x = none) (o : xO) : PWR κ A σ τ w g i h0 (xup ah x o) := ⟨h.1.fresh hx o, h.2⟩
theorem PWR.wl {w g i : Nat} (h : PWR κ A σ τ w g i h0 ah) : ah (A 13 w) = some (.inr (9, [.ref (A 14 w), .int (nI (σ 6 w))])) := by
  have := h.1.1 13 w (show w < sw σ w g i 3 0 by rw [sw_3]; omega)
  rw [this]
  show some (Sum.inr (9, [.ref (A 14 w), .int (nI (sw σ w g i 6 w))]) : xO) = _
  rw [sw_o (by decide)]
theorem lp_wallInit (hI : MI σ) (hZ : ZI σ) {w g n x : Nat} (hw : σ 3 0 = w) (hw10 : w < 10) (hn : n ≤ 12) (hX : ∀ Ac τc ah, PWR κ Ac σ τc w g n h0 ah → WI A τ Ac τc w x n → R (.inl none) ah) : ∀ (m i k n' : Nat) (Ac τc : xS) (ah : xH), i + m = n → 4 * m ≤ k → 176 * m ≤ n' → PWR κ Ac σ τc w g i h0 ah → WI A τ Ac τc w x i →
    xW (T40 κ) (xm κ) R (17, [some (.ref x), some (.int (nI n)), some (.ref (κ (4 + g))), some (.int (nI i))], [], ah, k, n') := by
  intro m
  induction m with
  | zero =>
    intro i k n' Ac τc ah hi hk hn' h hW
    have hi' : i = n := by omega
    subst hi'
    rw [e40_17]
    simp (disch := omega) only [e40_18, e40_19, e40_22, e40_22n, e40_23, e40_26, e40_29, e40_29i, e40_30, e40_30n, e40_31, e40_34, e40_37, e40_37i, e40_37n, e40_38, e40_41, e40_44, xKv, xK0, xKx, xKHv, xKH0, xk_none, xk_i, xk_f, xk_l, xk_r, xk_n, xc_i, xc_f, xc_l, xc_d, xc_r, xc_n, xo_some, List.map_cons, List.map_nil, List.sum_cons, List.sum_nil, xnzn, xpn0, xpn1, xpnb, xpnn, i10, i00, true_imp_iff, false_imp_iff, not_true_eq_false, not_false_eq_true, true_and, and_true, implies_true, xnz0, xnz1, xnzb, xfz0, xfz1, xfzb, Option.isSome_some, if_true, if_false, xbF, xbT, and_false, false_and, Nat.zero_le, Nat.reduceEqDiff, Nat.reduceLeDiff, Nat.reduceAdd, Nat.reduceSub, xiT, xiF, pk_mul, nI_add, Nat.add_sub_cancel, lad0, leq0, lle0, lge0, llt0, lgt0, leq1, lle1, lge1, llt1, lgt1, lad1, lsu1, leq2, lle2, lge2, llt2, lgt2, lmu2, lmv2, lad2, lsu2, ldi2, leq3, lle3, lge3, llt3, lgt3, lmu3, lmv3, lad3, lsu3, ldi3, leq4, lle4, lge4, llt4, lgt4, lmu4, lmv4, lad4, lsu4, ldi4, leq5, lle5, lge5, llt5, lgt5, lmu5, lmv5, lad5, lsu5, ldi5, leq6, lle6, lge6, llt6, lgt6, lmu6, lmv6, lad6, lsu6, ldi6, leq8, lle8, lge8, llt8, lgt8, lmu8, lmv8, lad8, lsu8, ldi8, leq9, lle9, lge9, llt9, lgt9, lmu9, lmv9, lad9, lsu9, ldi9, leq10, lle10, lge10, llt10, lgt10, lmu10, lmv10, lad10, lsu10, ldi10, leq12, lle12, lge12, llt12, lgt12, lmu12, lmv12, lad12, lsu12, ldi12, leq20, lle20, lge20, llt20, lgt20, lmu20, lmv20, lad20, lsu20, ldi20, leq25, lle25, lge25, llt25, lgt25, lmu25, lmv25, lad25, lsu25, ldi25, leq30, lle30, lge30, llt30, lgt30, lmu30, lmv30, lad30, lsu30, ldi30, leq48, lle48, lge48, llt48, lgt48, lmu48, lmv48, lad48, lsu48, ldi48, leq50, lle50, lge50, llt50, lgt50, lmu50, lmv50, lad50, lsu50, ldi50, leq99, lle99, lge99, llt99, lgt99, lmu99, lmv99, lad99, lsu99, ldi99, leq100, lle100, lge100, llt100, lgt100, lmu100, lmv100, lad100, lsu100, ldi100, leq2000, lle2000, lge2000, llt2000, lgt2000, lmu2000, lmv2000, lad2000, lsu2000, ldi2000, xle, leT, Nat.le_refl]
    exact hX Ac τc ah h hW
  | succ m ih =>
    intro i k n' Ac τc ah hi hk hn' h hW
    have hwl := h.wl
    rw [hW.2.1] at hwl
    have f0 : xfld ah x 9 0 = some (.ref (Ac 14 w)) := xfld_of hwl
    rw [e40_17]
    simp (disch := omega) only [e40_18, e40_19, e40_22, e40_22n, e40_23, xKv, xK0, xKx, xKHv, xKH0, xk_none, xk_i, xk_f, xk_l, xk_r, xk_n, xc_i, xc_f, xc_l, xc_d, xc_r, xc_n, xo_some, List.map_cons, List.map_nil, List.sum_cons, List.sum_nil, xnzn, xpn0, xpn1, xpnb, xpnn, i10, i00, true_imp_iff, false_imp_iff, not_true_eq_false, not_false_eq_true, true_and, and_true, implies_true, xnz0, xnz1, xnzb, xfz0, xfz1, xfzb, Option.isSome_some, if_true, if_false, xbF, xbT, and_false, false_and, Nat.zero_le, Nat.reduceEqDiff, Nat.reduceLeDiff, Nat.reduceAdd, Nat.reduceSub, xiT, xiF, pk_mul, nI_add, Nat.add_sub_cancel, lad0, leq0, lle0, lge0, llt0, lgt0, leq1, lle1, lge1, llt1, lgt1, lad1, lsu1, leq2, lle2, lge2, llt2, lgt2, lmu2, lmv2, lad2, lsu2, ldi2, leq3, lle3, lge3, llt3, lgt3, lmu3, lmv3, lad3, lsu3, ldi3, leq4, lle4, lge4, llt4, lgt4, lmu4, lmv4, lad4, lsu4, ldi4, leq5, lle5, lge5, llt5, lgt5, lmu5, lmv5, lad5, lsu5, ldi5, leq6, lle6, lge6, llt6, lgt6, lmu6, lmv6, lad6, lsu6, ldi6, leq8, lle8, lge8, llt8, lgt8, lmu8, lmv8, lad8, lsu8, ldi8, leq9, lle9, lge9, llt9, lgt9, lmu9, lmv9, lad9, lsu9, ldi9, leq10, lle10, lge10, llt10, lgt10, lmu10, lmv10, lad10, lsu10, ldi10, leq12, lle12, lge12, llt12, lgt12, lmu12, lmv12, lad12, lsu12, ldi12, leq20, lle20, lge20, llt20, lgt20, lmu20, lmv20, lad20, lsu20, ldi20, leq25, lle25, lge25, llt25, lgt25, lmu25, lmv25, lad25, lsu25, ldi25, leq30, lle30, lge30, llt30, lgt30, lmu30, lmv30, lad30, lsu30, ldi30, leq48, lle48, lge48, llt48, lgt48, lmu48, lmv48, lad48, lsu48, ldi48, leq50, lle50, lge50, llt50, lgt50, lmu50, lmv50, lad50, lsu50, ldi50, leq99, lle99, lge99, llt99, lgt99, lmu99, lmv99, lad99, lsu99, ldi99, leq100, lle100, lge100, llt100, lgt100, lmu100, lmv100, lad100, lsu100, ldi100, leq2000, lle2000, lge2000, llt2000, lgt2000, lmu2000, lmv2000, lad2000, lsu2000, ldi2000, xle, leF, f0]
    rw [e40_26]
    refine ⟨by omega, by omega, fun s hs => ?_⟩
    rw [e40_29, e40_30, e40_31]
    refine ⟨⟨show (1 + (1 + 0) : Nat) ≤ 8 from by decide, trivial, by omega, by omega⟩, sp_stripInit (xup_self _ _ _) (fun l hl => ?_)⟩
    have hsl : s ≠ l := xis_ne (xup_self ah s (.inr (8, [.null, .null, .int 0]))) hl
    have hl0 : ah l = none := by rw [xup_ne _ _ (fun q => hsl q.symm)] at hl; exact hl
    rw [xup_cm (o := .inr (8, [.null, .null, .int 0])) hsl, xup_xup]
    have c1 := (h.fresh hl0 (lcell 0 (κ 9) 0)).fresh (x := s) (by rw [xup_ne _ _ hsl]; exact hs) (.inr (8, [.ref (κ (4 + g)), .ref l, .int 0]))
    have hLL := c1.lst
    show xW _ _ _ _
    rw [e40_34]
    refine ⟨⟨by decide, ⟨_, hLL.1⟩, by omega, by omega⟩, sp_ladd hLL (by omega) ⟨8, _, by decide, xup_self _ _ _⟩ (fun j hj => ⟨8, _, by decide, c1.1.1 16 (12 * w + j) ((sv_sw hw).mpr (Or.inl ⟨by omega, by omega⟩))⟩) (fun e' M ah' q1 q2 q3 q4 q5 q6 q7 => ?_)⟩
    show xW _ _ _ _
    rw [e40_37i]
    simp (disch := omega) only [e40_38, e40_41, xKv, xK0, xKx, xKHv, xKH0, xk_none, xk_i, xk_f, xk_l, xk_r, xk_n, xc_i, xc_f, xc_l, xc_d, xc_r, xc_n, xo_some, List.map_cons, List.map_nil, List.sum_cons, List.sum_nil, xnzn, xpn0, xpn1, xpnb, xpnn, i10, i00, true_imp_iff, false_imp_iff, not_true_eq_false, not_false_eq_true, true_and, and_true, implies_true, xnz0, xnz1, xnzb, xfz0, xfz1, xfzb, Option.isSome_some, if_true, if_false, xbF, xbT, and_false, false_and, Nat.zero_le, Nat.reduceEqDiff, Nat.reduceLeDiff, Nat.reduceAdd, Nat.reduceSub, xiT, xiF, pk_mul, nI_add, Nat.add_sub_cancel, lad0, leq0, lle0, lge0, llt0, lgt0, leq1, lle1, lge1, llt1, lgt1, lad1, lsu1, leq2, lle2, lge2, llt2, lgt2, lmu2, lmv2, lad2, lsu2, ldi2, leq3, lle3, lge3, llt3, lgt3, lmu3, lmv3, lad3, lsu3, ldi3, leq4, lle4, lge4, llt4, lgt4, lmu4, lmv4, lad4, lsu4, ldi4, leq5, lle5, lge5, llt5, lgt5, lmu5, lmv5, lad5, lsu5, ldi5, leq6, lle6, lge6, llt6, lgt6, lmu6, lmv6, lad6, lsu6, ldi6, leq8, lle8, lge8, llt8, lgt8, lmu8, lmv8, lad8, lsu8, ldi8, leq9, lle9, lge9, llt9, lgt9, lmu9, lmv9, lad9, lsu9, ldi9, leq10, lle10, lge10, llt10, lgt10, lmu10, lmv10, lad10, lsu10, ldi10, leq12, lle12, lge12, llt12, lgt12, lmu12, lmv12, lad12, lsu12, ldi12, leq20, lle20, lge20, llt20, lgt20, lmu20, lmv20, lad20, lsu20, ldi20, leq25, lle25, lge25, llt25, lgt25, lmu25, lmv25, lad25, lsu25, ldi25, leq30, lle30, lge30, llt30, lgt30, lmu30, lmv30, lad30, lsu30, ldi30, leq48, lle48, lge48, llt48, lgt48, lmu48, lmv48, lad48, lsu48, ldi48, leq50, lle50, lge50, llt50, lgt50, lmu50, lmv50, lad50, lsu50, ldi50, leq99, lle99, lge99, llt99, lgt99, lmu99, lmv99, lad99, lsu99, ldi99, leq100, lle100, lge100, llt100, lgt100, lmu100, lmv100, lad100, lsu100, ldi100, leq2000, lle2000, lge2000, llt2000, lgt2000, lmu2000, lmv2000, lad2000, lsu2000, ldi2000]
    refine ih (i + 1) _ _ _ _ ah' (by omega) (by omega) (by omega) (PWS h hI hZ hw hw10 (by omega) rfl hl0 hs hsl q1 q2 q3 q4 q5 q6 q7) ?_
    obtain ⟨w1, w2, w3, w4, w5, w6⟩ := hW
    refine ⟨fun k j n1 n2 n3 n4 n5 => ?_, ?_, fun c j n1 n2 n3 n4 => ?_, fun j hj => ?_, fun b hb => ?_, fun b hb1 hb2 => ?_⟩
    · rw [su_nr (fun q => n3 q.symm), su_nr (fun q => n4 q.symm), su_nr (fun q => n5 q.symm)]
      exact w1 k j n1 n2 n3 n4 n5
    · rw [su_nr (by decide), su_nr (by decide), su_nr (by decide)]
      exact w2
    · rw [su_nr (fun q => n1 q.symm), su_nr (fun q => n2 q.symm), su_nr (fun q => n4 q.symm), su_nr (fun q => n3 q.symm)]
      exact w3 c j n1 n2 n3 n4
    · rw [su_nr (by decide), su_ne (by omega), su_nr (by decide), su_nr (by decide)]
      exact w4 j hj
    · rw [su_nr (by decide), su_nr (by decide), su_ne (by omega), su_nr (by decide)]
      exact w5 b hb
    · rw [su_nr (by decide), su_nr (by decide)]
      by_cases e : b = 12 * w + i
      · rw [e, su_eq]
      · rw [su_ne (by omega), su_nr (by decide)]
        exact w6 b hb1 (by omega)
theorem PWE {w g n e' M : Nat} {ah' : xH} (h : PWR κ A σ τ w g n h0 ah) (hw : σ 3 0 = w)
    (hc : (e' = rwA κ A τ 1 0 ∧ ¬ τ 2 0 = 0) ∨ ah e' = none) (hM : M ∈ caps) (hM2 : w + 1 ≤ M)
    (h1 : ah' (A 1 0) = some (lcell (nI (τ 1 0) + 1) e' (w + 1)))
    (h2 : ah' e' = some (rcell M (w + 1) (fun j => if j = w then A 13 w else A 13 j))) (hne : A 1 0 ≠ e')
    (h3 : ∀ b, b ≠ A 1 0 → b ≠ e' → ah' b = ah b) (hW : CW (sw σ w g n) (su (su τ 2 0 M) 1 0 (τ 1 0 + 1))) :
    CR κ (su A 2 0 e') (sw σ w g n) (su (su τ 2 0 M) 1 0 (τ 1 0 + 1)) h0 ah' := by
  have hM0 := caps_le M hM
  have g3 := h.1.ladd (k := 1) (i := 0) (e' := e') (ah' := ah') rfl (hc.imp (fun q => ⟨by rw [q.1]; exact rwA_ne q.2, ⟨rfl, q.2⟩⟩) id) h1 h2 hne h3
  refine ⟨g3.cg (fun k j hu => ?_) (fun _ _ _ => rfl) (fun k j hu => ?_), hW⟩
  · by_cases e2 : k = 2
    · subst e2
      exact Or.inl ⟨rfl, hu.1⟩
    · refine Or.inr ?_
      unfold cU at hu ⊢
      split at hu <;> first | exact hu | (simp (disch := omega) only [su_nr] at hu ⊢ <;> first | exact hu) | omega
  · unfold cu
    by_cases e1 : k = 1 ∧ j = 0
    · obtain ⟨rfl, rfl⟩ := e1
      rw [if_pos ⟨rfl, rfl⟩]
      show lcell _ (rwA _ _ _ 1 0) (sw σ w g n 3 0) = _
      rw [rwA_ne (by simp (disch := omega) only [su_ne, su_eq]; omega), sw_3]
      simp (disch := omega) only [su_ne, su_eq, nI_succ]
    · rw [if_neg e1]
      by_cases e2 : k = 2 ∧ j = 0
      · obtain ⟨rfl, rfl⟩ := e2
        rw [if_pos ⟨rfl, rfl⟩]
        show rcell _ (sw σ w g n 3 0) _ = _
        rw [sw_3]
        simp (disch := omega) only [su_ne, su_eq]
        refine rcell_cg (fun y hy => ?_)
        by_cases ey : y = w
        · rw [if_pos ey, ey]
        · rw [if_neg ey]
      · rw [if_neg e2]
        have k1 : k ≠ 1 := fun q => e1 ⟨q, by subst q; exact hu⟩
        have k2 : k ≠ 2 := fun q => e2 ⟨q, by subst q; exact hu.1⟩
        unfold pC
        rw [if_neg k1, if_neg k2, cC_A (rfsN_2 k1), cC_rowT (rwTN_1 k1), cC_rowT (rwTN_2 ⟨k1, k2⟩)]
theorem PWR.wls {w g i : Nat} (h : PWR κ A σ τ w g i h0 ah) (hw : lw (τ 2 0) w) : LL κ ah (A 1 0) (nI (τ 1 0)) (rwA κ A τ 1 0) w (τ 2 0) (fun j => A 13 j) :=
  LL_of (k := 1) (h.1.1 1 0 rfl) (fun hz => h.1.1 2 0 ⟨rfl, hz⟩) hw
theorem CWwall {Ac τc : xS} {w g n x M v : Nat} (h : CW σ τ) (hI : MI σ) (hw : σ 3 0 = w) (hw10 : w < 10) (hn : n ≤ 12) (hW : WI A τ Ac τc w x n) (h15 : lw (τc 15 w) n) (hM : M ∈ caps) (hM2 : w + 1 ≤ M) : CW (sw σ w g n) (su (su τc 2 0 M) 1 0 v) := by
  obtain ⟨w1, w2, w3, w4, w5, w6⟩ := h
  obtain ⟨v1, v2, v3, v4, v5, v6⟩ := hW
  unfold CW
  simp (disch := omega) only [su_nr, su_eq, sw_o, sw_3]
  refine ⟨Or.inr ⟨hM2, hM⟩, ?_, ?_, ?_, fun b hb => ?_, fun b hb => ?_⟩
  · rw [v3 5 0 (by decide) (by decide) (by decide) (by decide), v3 33 0 (by decide) (by decide) (by decide) (by decide)]
    exact w2
  · rw [v3 7 0 (by decide) (by decide) (by decide) (by decide)]
    exact w3
  · rw [v3 10 0 (by decide) (by decide) (by decide) (by decide)]
    exact w4
  · by_cases e : b = w
    · subst e
      rw [sw_4]
      exact h15
    · rw [sw_4n e, v4 b e]
      exact w5 b (by omega)
  · by_cases q : sv σ b
    · rw [v5 b (by have := q.1; omega)]
      exact w6 b q
    · have q1 := ((sv_sw hw).mp hb).elim id (fun q' => absurd q' q)
      have h8 := hI.off (w := w) (s := b % 12) hw10 (by omega) (by omega)
      rw [v6 b q1.1 q1.2, show b = 12 * w + b % 12 by omega, h8]
      exact Or.inl ⟨rfl, rfl⟩
theorem LKwall {Ac τc : xS} {w g n x M v : Nat} (hL : LK σ τ) (hI : MI σ) (hw : σ 3 0 = w) (hw10 : w < 10) (hn : n ≤ 12) (hW : WI A τ Ac τc w x n) : LK (sw σ w g n) (su (su τc 2 0 M) 1 0 v) := by
  obtain ⟨v1, v2, v3, v4, v5, v6⟩ := hW
  have e : ∀ c j, c ≠ 1 → c ≠ 2 → c ≠ 14 → c ≠ 15 → c ≠ 17 → c ≠ 18 → su (su τc 2 0 M) 1 0 v c j = τ c j := fun c j n1 n2 n3 n4 n5 n6 => by
    rw [su_nr (fun q => n1 q.symm), su_nr (fun q => n2 q.symm)]
    exact v3 c j n3 n4 n5 n6
  refine ⟨fun b k hb hk => ?_, LKg_cg hL.2.1 (fun i => sw_o (by decide)) (fun c i hc => e c i (by omega) (by omega) (by omega) (by omega) (by omega) (by omega)), LKf_cg hL.2.2 (fun c i hc => sw_o (by omega)) (fun c i hc => e c i (by omega) (by omega) (by omega) (by omega) (by omega) (by omega))⟩
  rw [sw_o (by decide)] at hk
  by_cases q : sv σ b
  · have := hL.1 b k q hk
    unfold ndu at this ⊢
    rw [sw_o (c := 9) (by decide), sw_o (c := 10) (by decide), sw_o (c := 13) (by decide), sw_o (c := 12) (by decide), e 30 _ (by decide) (by decide) (by decide) (by decide) (by decide) (by decide)]
    exact this
  · have q1 := ((sv_sw hw).mp hb).elim id (fun q' => absurd q' q)
    have h8 := hI.off (w := w) (s := b % 12) hw10 (by omega) (by omega)
    rw [show 12 * w + b % 12 = b by omega] at h8
    omega
theorem t_wall_0 {σ : xS} {a b : Int32} (ha : xrg a 1 12) (hb : xin b 3) (hw : ¬ σ 3 0 = 10) : t_wall σ a b = 0 := by unfold t_wall; rw [xi_t ⟨ha, hb⟩, xi_f hw]
theorem sp_c_wall (h : CR κ A σ τ h0 ah) (hI : MI σ) (hZ : ZI σ) (hL : LK σ τ) {a b : Int32} (hR : t_wall σ a b = 0 → Ny κ A (s_wall σ a b) τ h0 R (some (.int (v_wall σ a b)))) (h1 : t_wall σ a b = 1 → R (.inr 0) ah) (h2 : t_wall σ a b = 2 → R (.inr 1) ah) : xm κ 51 [.ref (A 0 0), .int a, .int b] ah R := by
  have hW := hI.W
  have l3 : Int32.ofNat 3 = nI 3 := rfl
  by_cases ha : xrg a 1 12
  · obtain ⟨ja, hja1, hja2, rfl⟩ := xrg_of (by decide) ha
    have a1 : (nI ja < 1) = False := by rw [llt1 (by omega)]; exact eq_false (by omega)
    have a2 : (nI ja ≤ 12) = True := eq_true (show nI ja ≤ nI 12 from nI_le hja2 (by decide))
    by_cases hb : xin b 3
    · obtain ⟨jb, hjb, rfl⟩ := xin_of (by decide) hb
      have f0 : xfld ah (A 0 0) 10 0 = some (.ref (A 1 0)) := xfld_of h.x
      have hx : xis ah (A 1 0) 1 = True := xis_of h.wallsL.1
      by_cases hw : σ 3 0 = 10
      · have ht : t_wall σ (nI ja) (nI jb) = 2 := by unfold t_wall; rw [xi_t ⟨ha, hb⟩, xi_t hw]
        simp (disch := omega) only [e51_0, e51_1, e51_2, e51_5, e51_6, e51_8, e51_11, e51_21, e51_22, e51_25, e51_26, e51_29, e51_30, e51_33, e51_43, e51_43n, e51_44, e51_47, e51_50, e51_52, e51_55, en51, xKv, xK0, xKx, xKHv, xKH0, xk_none, xk_i, xk_f, xk_l, xk_r, xk_n, xc_i, xc_f, xc_l, xc_d, xc_r, xc_n, xo_some, List.map_cons, List.map_nil, List.sum_cons, List.sum_nil, xnzn, xpn0, xpn1, xpnb, xpnn, i10, i00, true_imp_iff, false_imp_iff, not_true_eq_false, not_false_eq_true, true_and, and_true, implies_true, xnz0, xnz1, xnzb, xfz0, xfz1, xfzb, Option.isSome_some, if_true, if_false, xbF, xbT, and_false, false_and, Nat.zero_le, Nat.reduceEqDiff, Nat.reduceLeDiff, Nat.reduceAdd, Nat.reduceSub, xiT, xiF, pk_mul, nI_add, Nat.add_sub_cancel, lad0, leq0, lle0, lge0, llt0, lgt0, leq1, lle1, lge1, llt1, lgt1, lad1, lsu1, leq2, lle2, lge2, llt2, lgt2, lmu2, lmv2, lad2, lsu2, ldi2, leq3, lle3, lge3, llt3, lgt3, lmu3, lmv3, lad3, lsu3, ldi3, leq4, lle4, lge4, llt4, lgt4, lmu4, lmv4, lad4, lsu4, ldi4, leq5, lle5, lge5, llt5, lgt5, lmu5, lmv5, lad5, lsu5, ldi5, leq6, lle6, lge6, llt6, lgt6, lmu6, lmv6, lad6, lsu6, ldi6, leq8, lle8, lge8, llt8, lgt8, lmu8, lmv8, lad8, lsu8, ldi8, leq9, lle9, lge9, llt9, lgt9, lmu9, lmv9, lad9, lsu9, ldi9, leq10, lle10, lge10, llt10, lgt10, lmu10, lmv10, lad10, lsu10, ldi10, leq12, lle12, lge12, llt12, lgt12, lmu12, lmv12, lad12, lsu12, ldi12, leq20, lle20, lge20, llt20, lgt20, lmu20, lmv20, lad20, lsu20, ldi20, leq25, lle25, lge25, llt25, lgt25, lmu25, lmv25, lad25, lsu25, ldi25, leq30, lle30, lge30, llt30, lgt30, lmu30, lmv30, lad30, lsu30, ldi30, leq48, lle48, lge48, llt48, lgt48, lmu48, lmv48, lad48, lsu48, ldi48, leq50, lle50, lge50, llt50, lgt50, lmu50, lmv50, lad50, lsu50, ldi50, leq99, lle99, lge99, llt99, lgt99, lmu99, lmv99, lad99, lsu99, ldi99, leq100, lle100, lge100, llt100, lgt100, lmu100, lmv100, lad100, lsu100, ldi100, leq2000, lle2000, lge2000, llt2000, lgt2000, lmu2000, lmv2000, lad2000, lsu2000, ldi2000, a1, a2, l3, eq_self, xlt, ltT, ltF, f0, hx, sp_lsize h.wallsL.1]
        exact h2 ht
      · have ht := t_wall_0 ha hb hw
        have hg := hR ht
        unfold s_wall v_wall at hg
        rw [xi_t ht, xi_t ht, nI_cl (by omega), nI_cl (by omega)] at hg
        simp (disch := omega) only [e51_0, e51_1, e51_2, e51_5, e51_6, e51_8, e51_11, e51_21, e51_22, e51_25, e51_26, e51_29, e51_30, e51_33, e51_43, e51_43n, e51_44, e51_47, e51_50, e51_52, e51_55, e51_65, e51_65n, e51_66, en51, xKv, xK0, xKx, xKHv, xKH0, xk_none, xk_i, xk_f, xk_l, xk_r, xk_n, xc_i, xc_f, xc_l, xc_d, xc_r, xc_n, xo_some, List.map_cons, List.map_nil, List.sum_cons, List.sum_nil, xnzn, xpn0, xpn1, xpnb, xpnn, i10, i00, true_imp_iff, false_imp_iff, not_true_eq_false, not_false_eq_true, true_and, and_true, implies_true, xnz0, xnz1, xnzb, xfz0, xfz1, xfzb, Option.isSome_some, if_true, if_false, xbF, xbT, and_false, false_and, Nat.zero_le, Nat.reduceEqDiff, Nat.reduceLeDiff, Nat.reduceAdd, Nat.reduceSub, xiT, xiF, pk_mul, nI_add, Nat.add_sub_cancel, lad0, leq0, lle0, lge0, llt0, lgt0, leq1, lle1, lge1, llt1, lgt1, lad1, lsu1, leq2, lle2, lge2, llt2, lgt2, lmu2, lmv2, lad2, lsu2, ldi2, leq3, lle3, lge3, llt3, lgt3, lmu3, lmv3, lad3, lsu3, ldi3, leq4, lle4, lge4, llt4, lgt4, lmu4, lmv4, lad4, lsu4, ldi4, leq5, lle5, lge5, llt5, lgt5, lmu5, lmv5, lad5, lsu5, ldi5, leq6, lle6, lge6, llt6, lgt6, lmu6, lmv6, lad6, lsu6, ldi6, leq8, lle8, lge8, llt8, lgt8, lmu8, lmv8, lad8, lsu8, ldi8, leq9, lle9, lge9, llt9, lgt9, lmu9, lmv9, lad9, lsu9, ldi9, leq10, lle10, lge10, llt10, lgt10, lmu10, lmv10, lad10, lsu10, ldi10, leq12, lle12, lge12, llt12, lgt12, lmu12, lmv12, lad12, lsu12, ldi12, leq20, lle20, lge20, llt20, lgt20, lmu20, lmv20, lad20, lsu20, ldi20, leq25, lle25, lge25, llt25, lgt25, lmu25, lmv25, lad25, lsu25, ldi25, leq30, lle30, lge30, llt30, lgt30, lmu30, lmv30, lad30, lsu30, ldi30, leq48, lle48, lge48, llt48, lgt48, lmu48, lmv48, lad48, lsu48, ldi48, leq50, lle50, lge50, llt50, lgt50, lmu50, lmv50, lad50, lsu50, ldi50, leq99, lle99, lge99, llt99, lgt99, lmu99, lmv99, lad99, lsu99, ldi99, leq100, lle100, lge100, llt100, lgt100, lmu100, lmv100, lad100, lsu100, ldi100, leq2000, lle2000, lge2000, llt2000, lgt2000, lmu2000, lmv2000, lad2000, lsu2000, ldi2000, a1, a2, l3, eq_self, xlt, ltT, ltF, f0, hx, sp_lsize h.wallsL.1]
        rw [e51_69]
        refine ⟨by decide, by decide, fun x hx0 => ?_⟩
        have hvp : vp_in (nI jb) 3 = True := xin_nI (i := jb) (N := 3) hjb (by decide)
        simp (disch := omega) only [e51_72, e51_72i, e51_73, e51_74, e51_77, e51_78, xKv, xK0, xKx, xKHv, xKH0, xk_none, xk_i, xk_f, xk_l, xk_r, xk_n, xc_i, xc_f, xc_l, xc_d, xc_r, xc_n, xo_some, List.map_cons, List.map_nil, List.sum_cons, List.sum_nil, xnzn, xpn0, xpn1, xpnb, xpnn, i10, i00, true_imp_iff, false_imp_iff, not_true_eq_false, not_false_eq_true, true_and, and_true, implies_true, xnz0, xnz1, xnzb, xfz0, xfz1, xfzb, Option.isSome_some, if_true, if_false, xbF, xbT, and_false, false_and, Nat.zero_le, Nat.reduceEqDiff, Nat.reduceLeDiff, Nat.reduceAdd, Nat.reduceSub, xiT, xiF, pk_mul, nI_add, Nat.add_sub_cancel, lad0, leq0, lle0, lge0, llt0, lgt0, leq1, lle1, lge1, llt1, lgt1, lad1, lsu1, leq2, lle2, lge2, llt2, lgt2, lmu2, lmv2, lad2, lsu2, ldi2, leq3, lle3, lge3, llt3, lgt3, lmu3, lmv3, lad3, lsu3, ldi3, leq4, lle4, lge4, llt4, lgt4, lmu4, lmv4, lad4, lsu4, ldi4, leq5, lle5, lge5, llt5, lgt5, lmu5, lmv5, lad5, lsu5, ldi5, leq6, lle6, lge6, llt6, lgt6, lmu6, lmv6, lad6, lsu6, ldi6, leq8, lle8, lge8, llt8, lgt8, lmu8, lmv8, lad8, lsu8, ldi8, leq9, lle9, lge9, llt9, lgt9, lmu9, lmv9, lad9, lsu9, ldi9, leq10, lle10, lge10, llt10, lgt10, lmu10, lmv10, lad10, lsu10, ldi10, leq12, lle12, lge12, llt12, lgt12, lmu12, lmv12, lad12, lsu12, ldi12, leq20, lle20, lge20, llt20, lgt20, lmu20, lmv20, lad20, lsu20, ldi20, leq25, lle25, lge25, llt25, lgt25, lmu25, lmv25, lad25, lsu25, ldi25, leq30, lle30, lge30, llt30, lgt30, lmu30, lmv30, lad30, lsu30, ldi30, leq48, lle48, lge48, llt48, lgt48, lmu48, lmv48, lad48, lsu48, ldi48, leq50, lle50, lge50, llt50, lgt50, lmu50, lmv50, lad50, lsu50, ldi50, leq99, lle99, lge99, llt99, lgt99, lmu99, lmv99, lad99, lsu99, ldi99, leq100, lle100, lge100, llt100, lgt100, lmu100, lmv100, lad100, lsu100, ldi100, leq2000, lle2000, lge2000, llt2000, lgt2000, lmu2000, lmv2000, lad2000, lsu2000, ldi2000, eq_self, hvp, nI_cl]
        obtain ⟨w, hw0⟩ : ∃ w, σ 3 0 = w := ⟨_, rfl⟩
        have hw10 : w < 10 := by omega
        rw [hw0] at hg
        rw [e51_79]
        refine ⟨⟨show (1 + (1 + 0) : Nat) ≤ 8 from by decide, trivial, by decide, by decide⟩, ?_⟩
        simp (disch := omega) only [e40_0, e40_0n, e40_1, e40_4, e40_4n, en40, xKv, xK0, xKx, xKHv, xKH0, xk_none, xk_i, xk_f, xk_l, xk_r, xk_n, xc_i, xc_f, xc_l, xc_d, xc_r, xc_n, xo_some, List.map_cons, List.map_nil, List.sum_cons, List.sum_nil, xnzn, xpn0, xpn1, xpnb, xpnn, i10, i00, true_imp_iff, false_imp_iff, not_true_eq_false, not_false_eq_true, true_and, and_true, implies_true, xnz0, xnz1, xnzb, xfz0, xfz1, xfzb, Option.isSome_some, if_true, if_false, xbF, xbT, and_false, false_and, Nat.zero_le, Nat.reduceEqDiff, Nat.reduceLeDiff, Nat.reduceAdd, Nat.reduceSub, xiT, xiF, pk_mul, nI_add, Nat.add_sub_cancel, lad0, leq0, lle0, lge0, llt0, lgt0, leq1, lle1, lge1, llt1, lgt1, lad1, lsu1, leq2, lle2, lge2, llt2, lgt2, lmu2, lmv2, lad2, lsu2, ldi2, leq3, lle3, lge3, llt3, lgt3, lmu3, lmv3, lad3, lsu3, ldi3, leq4, lle4, lge4, llt4, lgt4, lmu4, lmv4, lad4, lsu4, ldi4, leq5, lle5, lge5, llt5, lgt5, lmu5, lmv5, lad5, lsu5, ldi5, leq6, lle6, lge6, llt6, lgt6, lmu6, lmv6, lad6, lsu6, ldi6, leq8, lle8, lge8, llt8, lgt8, lmu8, lmv8, lad8, lsu8, ldi8, leq9, lle9, lge9, llt9, lgt9, lmu9, lmv9, lad9, lsu9, ldi9, leq10, lle10, lge10, llt10, lgt10, lmu10, lmv10, lad10, lsu10, ldi10, leq12, lle12, lge12, llt12, lgt12, lmu12, lmv12, lad12, lsu12, ldi12, leq20, lle20, lge20, llt20, lgt20, lmu20, lmv20, lad20, lsu20, ldi20, leq25, lle25, lge25, llt25, lgt25, lmu25, lmv25, lad25, lsu25, ldi25, leq30, lle30, lge30, llt30, lgt30, lmu30, lmv30, lad30, lsu30, ldi30, leq48, lle48, lge48, llt48, lgt48, lmu48, lmv48, lad48, lsu48, ldi48, leq50, lle50, lge50, llt50, lgt50, lmu50, lmv50, lad50, lsu50, ldi50, leq99, lle99, lge99, llt99, lgt99, lmu99, lmv99, lad99, lsu99, ldi99, leq100, lle100, lge100, llt100, lgt100, lmu100, lmv100, lad100, lsu100, ldi100, leq2000, lle2000, lge2000, llt2000, lgt2000, lmu2000, lmv2000, lad2000, lsu2000, ldi2000]
        rw [e40_5]
        refine ⟨by decide, by decide, fun l hl => ?_⟩
        have hxl : x ≠ l := xis_ne (xup_self ah x (.inr (9, [.null, .int 0]))) hl
        have hl0 : ah l = none := by rw [xup_ne _ _ (fun q => hxl q.symm)] at hl; exact hl
        rw [e40_8, e40_9]
        refine ⟨⟨show (1 + (1 + 0) : Nat) ≤ 8 from by decide, trivial⟩, (sp_listInit (xup_self _ _ _)).mpr ?_⟩
        rw [xup_xup]
        have hx1 : xup (xup ah x (.inr (9, [.null, .int 0]))) l (lcell 0 (κ 9) 0) x = some (.inr (9, [.null, .int 0])) := by rw [xup_ne _ _ hxl, xup_self]
        show xW _ _ _ _
        rw [e40_12]
        refine ⟨by rw [xfld_of hx1]; rfl, ?_⟩
        have ex : xput (xup (xup ah x (.inr (9, [.null, .int 0]))) l (lcell 0 (κ 9) 0)) x 0 (.ref l) = xup (xup ah l (lcell 0 (κ 9) 0)) x (.inr (9, [.ref l, .int 0])) := by
          rw [xput_of hx1, xup_cm hxl, xup_xup]
          rfl
        rw [ex]
        simp (disch := omega) only [e40_15, e40_16, xKv, xK0, xKx, xKHv, xKH0, xk_none, xk_i, xk_f, xk_l, xk_r, xk_n, xc_i, xc_f, xc_l, xc_d, xc_r, xc_n, xo_some, List.map_cons, List.map_nil, List.sum_cons, List.sum_nil, xnzn, xpn0, xpn1, xpnb, xpnn, i10, i00, true_imp_iff, false_imp_iff, not_true_eq_false, not_false_eq_true, true_and, and_true, implies_true, xnz0, xnz1, xnzb, xfz0, xfz1, xfzb, Option.isSome_some, if_true, if_false, xbF, xbT, and_false, false_and, Nat.zero_le, Nat.reduceEqDiff, Nat.reduceLeDiff, Nat.reduceAdd, Nat.reduceSub, xiT, xiF, pk_mul, nI_add, Nat.add_sub_cancel, lad0, leq0, lle0, lge0, llt0, lgt0, leq1, lle1, lge1, llt1, lgt1, lad1, lsu1, leq2, lle2, lge2, llt2, lgt2, lmu2, lmv2, lad2, lsu2, ldi2, leq3, lle3, lge3, llt3, lgt3, lmu3, lmv3, lad3, lsu3, ldi3, leq4, lle4, lge4, llt4, lgt4, lmu4, lmv4, lad4, lsu4, ldi4, leq5, lle5, lge5, llt5, lgt5, lmu5, lmv5, lad5, lsu5, ldi5, leq6, lle6, lge6, llt6, lgt6, lmu6, lmv6, lad6, lsu6, ldi6, leq8, lle8, lge8, llt8, lgt8, lmu8, lmv8, lad8, lsu8, ldi8, leq9, lle9, lge9, llt9, lgt9, lmu9, lmv9, lad9, lsu9, ldi9, leq10, lle10, lge10, llt10, lgt10, lmu10, lmv10, lad10, lsu10, ldi10, leq12, lle12, lge12, llt12, lgt12, lmu12, lmv12, lad12, lsu12, ldi12, leq20, lle20, lge20, llt20, lgt20, lmu20, lmv20, lad20, lsu20, ldi20, leq25, lle25, lge25, llt25, lgt25, lmu25, lmv25, lad25, lsu25, ldi25, leq30, lle30, lge30, llt30, lgt30, lmu30, lmv30, lad30, lsu30, ldi30, leq48, lle48, lge48, llt48, lgt48, lmu48, lmv48, lad48, lsu48, ldi48, leq50, lle50, lge50, llt50, lgt50, lmu50, lmv50, lad50, lsu50, ldi50, leq99, lle99, lge99, llt99, lgt99, lmu99, lmv99, lad99, lsu99, ldi99, leq100, lle100, lge100, llt100, lgt100, lmu100, lmv100, lad100, lsu100, ldi100, leq2000, lle2000, lge2000, llt2000, lgt2000, lmu2000, lmv2000, lad2000, lsu2000, ldi2000]
        refine lp_wallInit (A := A) (τ := τ) hI hZ hw0 hw10 hja2 (fun Ac τc ah1 c1 cW => ?_) ja 0 _ _ _ _ _ (Nat.zero_add _) (by omega) (by omega) (PW0 h hI hZ hw0 hw10 hl0 hx0 hxl) ?_
        · have hlw : lw (τc 2 0) w := by
            rw [cW.2.2.1 2 0 (by decide) (by decide) (by decide) (by decide), ← hw0]
            exact h.2.1
          have hLL := c1.wls hlw
          have eA1 : Ac 1 0 = A 1 0 := cW.1 1 0 (by decide) (by decide) (by decide) (by decide) (by decide)
          have eA0 : Ac 0 0 = A 0 0 := cW.1 0 0 (by decide) (by decide) (by decide) (by decide) (by decide)
          have ex := cW.2.1
          show xW _ _ _ _
          rw [e51_82, ← eA1]
          refine ⟨⟨by decide, ⟨_, hLL.1⟩, by decide, by decide⟩, sp_ladd hLL (by omega) ⟨9, _, by decide, by have := c1.wl; rw [ex] at this; exact this⟩ (fun j hj => ⟨9, _, by decide, c1.1.1 13 j (show j < sw σ w jb ja 3 0 by rw [sw_3]; omega)⟩) (fun e' M ah' q1 q2 q3 q4 q5 q6 q7 => ?_)⟩
          have q5' : ah' e' = some (rcell M (w + 1) (fun j => if j = w then Ac 13 w else Ac 13 j)) := by rw [ex]; exact q5
          have c2 := PWE c1 hw0 q1 q2 q3 q4 q5' q6 q7 (CWwall h.2 hI hw0 hw10 hja2 cW c1.2 q2 q3)
          have f0' : xfld ah' (A 0 0) 10 0 = some (.ref (A 1 0)) := by
            have := c2.x
            rw [su_nr (by decide), eA0] at this
            rw [xfld_of this, ← eA1, su_nr (by decide)]
            rfl
          have hLL2 := c2.wallsL
          rw [su_nr (by decide), sw_3, eA1] at hLL2
          have hx' : xis ah' (A 1 0) 1 = True := xis_of hLL2.1
          show xW _ _ _ _
          rw [e51_85i]
          simp (disch := omega) only [e51_86, e51_86n, e51_87, e51_90, e51_93, e51_94, e51_95, xKv, xK0, xKx, xKHv, xKH0, xk_none, xk_i, xk_f, xk_l, xk_r, xk_n, xc_i, xc_f, xc_l, xc_d, xc_r, xc_n, xo_some, List.map_cons, List.map_nil, List.sum_cons, List.sum_nil, xnzn, xpn0, xpn1, xpnb, xpnn, i10, i00, true_imp_iff, false_imp_iff, not_true_eq_false, not_false_eq_true, true_and, and_true, implies_true, xnz0, xnz1, xnzb, xfz0, xfz1, xfzb, Option.isSome_some, if_true, if_false, xbF, xbT, and_false, false_and, Nat.zero_le, Nat.reduceEqDiff, Nat.reduceLeDiff, Nat.reduceAdd, Nat.reduceSub, xiT, xiF, pk_mul, nI_add, Nat.add_sub_cancel, lad0, leq0, lle0, lge0, llt0, lgt0, leq1, lle1, lge1, llt1, lgt1, lad1, lsu1, leq2, lle2, lge2, llt2, lgt2, lmu2, lmv2, lad2, lsu2, ldi2, leq3, lle3, lge3, llt3, lgt3, lmu3, lmv3, lad3, lsu3, ldi3, leq4, lle4, lge4, llt4, lgt4, lmu4, lmv4, lad4, lsu4, ldi4, leq5, lle5, lge5, llt5, lgt5, lmu5, lmv5, lad5, lsu5, ldi5, leq6, lle6, lge6, llt6, lgt6, lmu6, lmv6, lad6, lsu6, ldi6, leq8, lle8, lge8, llt8, lgt8, lmu8, lmv8, lad8, lsu8, ldi8, leq9, lle9, lge9, llt9, lgt9, lmu9, lmv9, lad9, lsu9, ldi9, leq10, lle10, lge10, llt10, lgt10, lmu10, lmv10, lad10, lsu10, ldi10, leq12, lle12, lge12, llt12, lgt12, lmu12, lmv12, lad12, lsu12, ldi12, leq20, lle20, lge20, llt20, lgt20, lmu20, lmv20, lad20, lsu20, ldi20, leq25, lle25, lge25, llt25, lgt25, lmu25, lmv25, lad25, lsu25, ldi25, leq30, lle30, lge30, llt30, lgt30, lmu30, lmv30, lad30, lsu30, ldi30, leq48, lle48, lge48, llt48, lgt48, lmu48, lmv48, lad48, lsu48, ldi48, leq50, lle50, lge50, llt50, lgt50, lmu50, lmv50, lad50, lsu50, ldi50, leq99, lle99, lge99, llt99, lgt99, lmu99, lmv99, lad99, lsu99, ldi99, leq100, lle100, lge100, llt100, lgt100, lmu100, lmv100, lad100, lsu100, ldi100, leq2000, lle2000, lge2000, llt2000, lgt2000, lmu2000, lmv2000, lad2000, lsu2000, ldi2000, f0', hx', sp_lsize hLL2.1]
          have := hg _ _ ah' c2 (LKwall hL hI hw0 hw10 hja2 cW) (by rw [su_nr (by decide), su_nr (by decide), cW.2.2.1 33 0 (by decide) (by decide) (by decide) (by decide)]; omega) (by rw [su_nr (by decide)]; exact eA0)
          exact this
        · refine ⟨fun k j n1 n2 n3 n4 n5 => ?_, su_eq, fun c j n1 n2 n3 n4 => ?_, fun j hj => ?_, fun b hb => ?_, fun b hb1 hb2 => absurd hb2 (by omega)⟩
          · rw [su_nr (fun q => n1 q.symm), su_nr (fun q => n2 q.symm)]
          · rw [su_nr (fun q => n2 q.symm), su_nr (fun q => n1 q.symm)]
          · rw [su_ne (by omega), su_nr (by decide)]
          · rw [su_nr (by decide), su_nr (by decide)]
    · have ht : t_wall σ (nI ja) b = 1 := by unfold t_wall; rw [xi_f (fun q => hb q.2)]
      by_cases hb0 : b < 0
      · simp (disch := omega) only [e51_0, e51_1, e51_2, e51_5, e51_6, e51_8, e51_11, e51_21, e51_22, e51_25, e51_26, e51_29, e51_30, e51_33, en51, xKv, xK0, xKx, xKHv, xKH0, xk_none, xk_i, xk_f, xk_l, xk_r, xk_n, xc_i, xc_f, xc_l, xc_d, xc_r, xc_n, xo_some, List.map_cons, List.map_nil, List.sum_cons, List.sum_nil, xnzn, xpn0, xpn1, xpnb, xpnn, i10, i00, true_imp_iff, false_imp_iff, not_true_eq_false, not_false_eq_true, true_and, and_true, implies_true, xnz0, xnz1, xnzb, xfz0, xfz1, xfzb, Option.isSome_some, if_true, if_false, xbF, xbT, and_false, false_and, Nat.zero_le, Nat.reduceEqDiff, Nat.reduceLeDiff, Nat.reduceAdd, Nat.reduceSub, xiT, xiF, pk_mul, nI_add, Nat.add_sub_cancel, lad0, leq0, lle0, lge0, llt0, lgt0, leq1, lle1, lge1, llt1, lgt1, lad1, lsu1, leq2, lle2, lge2, llt2, lgt2, lmu2, lmv2, lad2, lsu2, ldi2, leq3, lle3, lge3, llt3, lgt3, lmu3, lmv3, lad3, lsu3, ldi3, leq4, lle4, lge4, llt4, lgt4, lmu4, lmv4, lad4, lsu4, ldi4, leq5, lle5, lge5, llt5, lgt5, lmu5, lmv5, lad5, lsu5, ldi5, leq6, lle6, lge6, llt6, lgt6, lmu6, lmv6, lad6, lsu6, ldi6, leq8, lle8, lge8, llt8, lgt8, lmu8, lmv8, lad8, lsu8, ldi8, leq9, lle9, lge9, llt9, lgt9, lmu9, lmv9, lad9, lsu9, ldi9, leq10, lle10, lge10, llt10, lgt10, lmu10, lmv10, lad10, lsu10, ldi10, leq12, lle12, lge12, llt12, lgt12, lmu12, lmv12, lad12, lsu12, ldi12, leq20, lle20, lge20, llt20, lgt20, lmu20, lmv20, lad20, lsu20, ldi20, leq25, lle25, lge25, llt25, lgt25, lmu25, lmv25, lad25, lsu25, ldi25, leq30, lle30, lge30, llt30, lgt30, lmu30, lmv30, lad30, lsu30, ldi30, leq48, lle48, lge48, llt48, lgt48, lmu48, lmv48, lad48, lsu48, ldi48, leq50, lle50, lge50, llt50, lgt50, lmu50, lmv50, lad50, lsu50, ldi50, leq99, lle99, lge99, llt99, lgt99, lmu99, lmv99, lad99, lsu99, ldi99, leq100, lle100, lge100, llt100, lgt100, lmu100, lmv100, lad100, lsu100, ldi100, leq2000, lle2000, lge2000, llt2000, lgt2000, lmu2000, lmv2000, lad2000, lsu2000, ldi2000, a1, a2, hb0]
        exact h1 ht
      · have l2 : (b < nI 3) = False := eq_false (fun q => hb ⟨Int32.not_lt.mp hb0, q⟩)
        simp (disch := omega) only [e51_0, e51_1, e51_2, e51_5, e51_6, e51_8, e51_11, e51_21, e51_22, e51_25, e51_26, e51_29, e51_30, e51_33, en51, xKv, xK0, xKx, xKHv, xKH0, xk_none, xk_i, xk_f, xk_l, xk_r, xk_n, xc_i, xc_f, xc_l, xc_d, xc_r, xc_n, xo_some, List.map_cons, List.map_nil, List.sum_cons, List.sum_nil, xnzn, xpn0, xpn1, xpnb, xpnn, i10, i00, true_imp_iff, false_imp_iff, not_true_eq_false, not_false_eq_true, true_and, and_true, implies_true, xnz0, xnz1, xnzb, xfz0, xfz1, xfzb, Option.isSome_some, if_true, if_false, xbF, xbT, and_false, false_and, Nat.zero_le, Nat.reduceEqDiff, Nat.reduceLeDiff, Nat.reduceAdd, Nat.reduceSub, xiT, xiF, pk_mul, nI_add, Nat.add_sub_cancel, lad0, leq0, lle0, lge0, llt0, lgt0, leq1, lle1, lge1, llt1, lgt1, lad1, lsu1, leq2, lle2, lge2, llt2, lgt2, lmu2, lmv2, lad2, lsu2, ldi2, leq3, lle3, lge3, llt3, lgt3, lmu3, lmv3, lad3, lsu3, ldi3, leq4, lle4, lge4, llt4, lgt4, lmu4, lmv4, lad4, lsu4, ldi4, leq5, lle5, lge5, llt5, lgt5, lmu5, lmv5, lad5, lsu5, ldi5, leq6, lle6, lge6, llt6, lgt6, lmu6, lmv6, lad6, lsu6, ldi6, leq8, lle8, lge8, llt8, lgt8, lmu8, lmv8, lad8, lsu8, ldi8, leq9, lle9, lge9, llt9, lgt9, lmu9, lmv9, lad9, lsu9, ldi9, leq10, lle10, lge10, llt10, lgt10, lmu10, lmv10, lad10, lsu10, ldi10, leq12, lle12, lge12, llt12, lgt12, lmu12, lmv12, lad12, lsu12, ldi12, leq20, lle20, lge20, llt20, lgt20, lmu20, lmv20, lad20, lsu20, ldi20, leq25, lle25, lge25, llt25, lgt25, lmu25, lmv25, lad25, lsu25, ldi25, leq30, lle30, lge30, llt30, lgt30, lmu30, lmv30, lad30, lsu30, ldi30, leq48, lle48, lge48, llt48, lgt48, lmu48, lmv48, lad48, lsu48, ldi48, leq50, lle50, lge50, llt50, lgt50, lmu50, lmv50, lad50, lsu50, ldi50, leq99, lle99, lge99, llt99, lgt99, lmu99, lmv99, lad99, lsu99, ldi99, leq100, lle100, lge100, llt100, lgt100, lmu100, lmv100, lad100, lsu100, ldi100, leq2000, lle2000, lge2000, llt2000, lgt2000, lmu2000, lmv2000, lad2000, lsu2000, ldi2000, a1, a2, hb0, eq_self, l3, l2]
        exact h1 ht
  · have ht : t_wall σ a b = 1 := by unfold t_wall; rw [xi_f (fun q => ha q.1)]
    by_cases ha0 : a < 1
    · simp (disch := omega) only [e51_0, e51_1, e51_2, e51_5, e51_6, e51_8, e51_11, en51, xKv, xK0, xKx, xKHv, xKH0, xk_none, xk_i, xk_f, xk_l, xk_r, xk_n, xc_i, xc_f, xc_l, xc_d, xc_r, xc_n, xo_some, List.map_cons, List.map_nil, List.sum_cons, List.sum_nil, xnzn, xpn0, xpn1, xpnb, xpnn, i10, i00, true_imp_iff, false_imp_iff, not_true_eq_false, not_false_eq_true, true_and, and_true, implies_true, xnz0, xnz1, xnzb, xfz0, xfz1, xfzb, Option.isSome_some, if_true, if_false, xbF, xbT, and_false, false_and, Nat.zero_le, Nat.reduceEqDiff, Nat.reduceLeDiff, Nat.reduceAdd, Nat.reduceSub, xiT, xiF, pk_mul, nI_add, Nat.add_sub_cancel, lad0, leq0, lle0, lge0, llt0, lgt0, leq1, lle1, lge1, llt1, lgt1, lad1, lsu1, leq2, lle2, lge2, llt2, lgt2, lmu2, lmv2, lad2, lsu2, ldi2, leq3, lle3, lge3, llt3, lgt3, lmu3, lmv3, lad3, lsu3, ldi3, leq4, lle4, lge4, llt4, lgt4, lmu4, lmv4, lad4, lsu4, ldi4, leq5, lle5, lge5, llt5, lgt5, lmu5, lmv5, lad5, lsu5, ldi5, leq6, lle6, lge6, llt6, lgt6, lmu6, lmv6, lad6, lsu6, ldi6, leq8, lle8, lge8, llt8, lgt8, lmu8, lmv8, lad8, lsu8, ldi8, leq9, lle9, lge9, llt9, lgt9, lmu9, lmv9, lad9, lsu9, ldi9, leq10, lle10, lge10, llt10, lgt10, lmu10, lmv10, lad10, lsu10, ldi10, leq12, lle12, lge12, llt12, lgt12, lmu12, lmv12, lad12, lsu12, ldi12, leq20, lle20, lge20, llt20, lgt20, lmu20, lmv20, lad20, lsu20, ldi20, leq25, lle25, lge25, llt25, lgt25, lmu25, lmv25, lad25, lsu25, ldi25, leq30, lle30, lge30, llt30, lgt30, lmu30, lmv30, lad30, lsu30, ldi30, leq48, lle48, lge48, llt48, lgt48, lmu48, lmv48, lad48, lsu48, ldi48, leq50, lle50, lge50, llt50, lgt50, lmu50, lmv50, lad50, lsu50, ldi50, leq99, lle99, lge99, llt99, lgt99, lmu99, lmv99, lad99, lsu99, ldi99, leq100, lle100, lge100, llt100, lgt100, lmu100, lmv100, lad100, lsu100, ldi100, leq2000, lle2000, lge2000, llt2000, lgt2000, lmu2000, lmv2000, lad2000, lsu2000, ldi2000, ha0]
      exact h1 ht
    · have l2 : (a ≤ 12) = False := eq_false (fun q => ha ((xrg_L (a := 1) (b := 12) (by decide) (by decide)).mp ⟨Int32.not_lt.mp ha0, q⟩))
      simp (disch := omega) only [e51_0, e51_1, e51_2, e51_5, e51_6, e51_8, e51_11, en51, xKv, xK0, xKx, xKHv, xKH0, xk_none, xk_i, xk_f, xk_l, xk_r, xk_n, xc_i, xc_f, xc_l, xc_d, xc_r, xc_n, xo_some, List.map_cons, List.map_nil, List.sum_cons, List.sum_nil, xnzn, xpn0, xpn1, xpnb, xpnn, i10, i00, true_imp_iff, false_imp_iff, not_true_eq_false, not_false_eq_true, true_and, and_true, implies_true, xnz0, xnz1, xnzb, xfz0, xfz1, xfzb, Option.isSome_some, if_true, if_false, xbF, xbT, and_false, false_and, Nat.zero_le, Nat.reduceEqDiff, Nat.reduceLeDiff, Nat.reduceAdd, Nat.reduceSub, xiT, xiF, pk_mul, nI_add, Nat.add_sub_cancel, lad0, leq0, lle0, lge0, llt0, lgt0, leq1, lle1, lge1, llt1, lgt1, lad1, lsu1, leq2, lle2, lge2, llt2, lgt2, lmu2, lmv2, lad2, lsu2, ldi2, leq3, lle3, lge3, llt3, lgt3, lmu3, lmv3, lad3, lsu3, ldi3, leq4, lle4, lge4, llt4, lgt4, lmu4, lmv4, lad4, lsu4, ldi4, leq5, lle5, lge5, llt5, lgt5, lmu5, lmv5, lad5, lsu5, ldi5, leq6, lle6, lge6, llt6, lgt6, lmu6, lmv6, lad6, lsu6, ldi6, leq8, lle8, lge8, llt8, lgt8, lmu8, lmv8, lad8, lsu8, ldi8, leq9, lle9, lge9, llt9, lgt9, lmu9, lmv9, lad9, lsu9, ldi9, leq10, lle10, lge10, llt10, lgt10, lmu10, lmv10, lad10, lsu10, ldi10, leq12, lle12, lge12, llt12, lgt12, lmu12, lmv12, lad12, lsu12, ldi12, leq20, lle20, lge20, llt20, lgt20, lmu20, lmv20, lad20, lsu20, ldi20, leq25, lle25, lge25, llt25, lgt25, lmu25, lmv25, lad25, lsu25, ldi25, leq30, lle30, lge30, llt30, lgt30, lmu30, lmv30, lad30, lsu30, ldi30, leq48, lle48, lge48, llt48, lgt48, lmu48, lmv48, lad48, lsu48, ldi48, leq50, lle50, lge50, llt50, lgt50, lmu50, lmv50, lad50, lsu50, ldi50, leq99, lle99, lge99, llt99, lgt99, lmu99, lmv99, lad99, lsu99, ldi99, leq100, lle100, lge100, llt100, lgt100, lmu100, lmv100, lad100, lsu100, ldi100, leq2000, lle2000, lge2000, llt2000, lgt2000, lmu2000, lmv2000, lad2000, lsu2000, ldi2000, ha0, l2]
      exact h1 ht
end

