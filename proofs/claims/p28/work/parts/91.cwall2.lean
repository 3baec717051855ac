/-! the class: what changes on a wall -/
section
variable {κ : Nat → Nat} {R : xR → xH → Prop} {A σ τ : xS} {h0 ah : xH} {w : Nat}
theorem su_id {σ : xS} {c i v : Nat} (h : v = σ c i) : su σ c i v = σ := by
  funext c' i'
  unfold su
  split
  · rename_i q; rw [q.1, q.2, h]
  · rfl
theorem CR.coatW (h : CR κ A σ τ h0 ah) {u : Nat} (hu : cU σ τ 19 u) (v14 v15 pt : Nat) : CR κ A (su (su σ 14 u v14) 15 u v15) (su τ 30 u pt) h0 (xup ah (A 19 u) (ccell κ (σ 9 u) (σ 10 u) (σ 11 u) v14 v15 pt)) := by
  refine ⟨(h.1.wr hu _).cg (fun k i hu => ?_) (fun _ _ _ => rfl) (fun k i hu => ?_), ?_⟩
  · rw [cU_rowT (by decide), cU_row (by decide), cU_row (by decide)] at hu
    exact hu
  · unfold cu
    by_cases e19 : k = 19
    · subst e19
      by_cases e : i = u
      · subst e
        rw [if_pos ⟨rfl, rfl⟩]
        unfold cC ccell
        simp (disch := omega) only [su_ne, su_eq]
      · rw [if_neg (fun q => e q.2)]
        unfold cC
        simp (disch := omega) only [su_ne]
    · rw [if_neg (fun q => e19 q.1), cC_rowT (rwTN_30 e19), cC_row (rwsN_15 e19), cC_row (rwsN_14 e19)]
  · rw [CW_rowT (by decide), CW_row (by decide), CW_row (by decide)]
    exact h.2
theorem su_nz (x : Nat) : ¬ nI 1 = nI 0 := by decide
theorem lp_scratchT {f t : Nat} : ∀ (n s c : Nat) (l5 l6 : Option Value) (σ : xS) (ah : xH), CR κ A σ τ h0 ah → MI σ → w < σ 3 0 → t < σ 4 w → (∀ j, s ≤ j → j ≤ t → ¬ σ 8 (12 * w + j) = 0) → s + n = t + 1 → xkill l5 = l5 →
    (∀ ah', CR κ A (fo (scr w) n s σ) τ h0 ah' → R (.inl (some (.int (nI (c + scn w n s σ))))) ah') →
    xW (T47 κ) (xm κ) R (5, [some (.ref (A 13 w)), some (.int (nI f)), some (.int (nI t)), some (.int (nI c)), some (.int (nI s)), l5, l6], [], ah, 0, 0) := by
  intro n
  induction n with
  | zero =>
    intro s c l5 l6 σ ah h hI hw ht h8 hs hl5 hX
    have h4 := hI.w4 (w := w) (by have := hI.W; omega)
    have hs' : s = t + 1 := by omega
    subst hs'
    rw [e47_5]
    simp (disch := omega) only [e47_7, e47_8, e47_11, e47_13, e47_13n, e47_14, e47_17, e47_20, e47_23, e47_23n, e47_24, e47_26, e47_29, e47_29n, e47_31, e47_31n, e47_33n, e47_33, e47_36, e47_37, e47_40, e47_40n, e47_42, e47_45, e47_45n, e47_47, e47_47n, e47_49n, e47_49, e47_52, e47_52n, e47_54, e47_57, e47_60, e47_60n, e47_62, e47_63, e47_66, e47_69, e47_72, e47_75, e47_76, xKv, xK0, xKx, xKHv, xKH0, xk_none, xk_i, xk_f, xk_l, xk_r, xk_n, xc_i, xc_f, xc_l, xc_d, xc_r, xc_n, xo_some, List.map_cons, List.map_nil, List.sum_cons, List.sum_nil, xnzn, xpn0, xpn1, xpnb, xpnn, i10, i00, true_imp_iff, false_imp_iff, not_true_eq_false, not_false_eq_true, true_and, and_true, implies_true, xnz0, xnz1, xnzb, xfz0, xfz1, xfzb, Option.isSome_some, if_true, if_false, xbF, xbT, and_false, false_and, Nat.zero_le, Nat.reduceEqDiff, Nat.reduceLeDiff, Nat.reduceAdd, Nat.reduceSub, xiT, xiF, pk_mul, nI_add, Nat.add_sub_cancel, lad0, leq0, lle0, lge0, llt0, lgt0, leq1, lle1, lge1, llt1, lgt1, lad1, lsu1, leq2, lle2, lge2, llt2, lgt2, lmu2, lmv2, lad2, lsu2, ldi2, leq3, lle3, lge3, llt3, lgt3, lmu3, lmv3, lad3, lsu3, ldi3, leq4, lle4, lge4, llt4, lgt4, lmu4, lmv4, lad4, lsu4, ldi4, leq5, lle5, lge5, llt5, lgt5, lmu5, lmv5, lad5, lsu5, ldi5, leq6, lle6, lge6, llt6, lgt6, lmu6, lmv6, lad6, lsu6, ldi6, leq8, lle8, lge8, llt8, lgt8, lmu8, lmv8, lad8, lsu8, ldi8, leq9, lle9, lge9, llt9, lgt9, lmu9, lmv9, lad9, lsu9, ldi9, leq10, lle10, lge10, llt10, lgt10, lmu10, lmv10, lad10, lsu10, ldi10, leq12, lle12, lge12, llt12, lgt12, lmu12, lmv12, lad12, lsu12, ldi12, leq20, lle20, lge20, llt20, lgt20, lmu20, lmv20, lad20, lsu20, ldi20, leq25, lle25, lge25, llt25, lgt25, lmu25, lmv25, lad25, lsu25, ldi25, leq30, lle30, lge30, llt30, lgt30, lmu30, lmv30, lad30, lsu30, ldi30, leq48, lle48, lge48, llt48, lgt48, lmu48, lmv48, lad48, lsu48, ldi48, leq50, lle50, lge50, llt50, lgt50, lmu50, lmv50, lad50, lsu50, ldi50, leq99, lle99, lge99, llt99, lgt99, lmu99, lmv99, lad99, lsu99, ldi99, leq100, lle100, lge100, llt100, lgt100, lmu100, lmv100, lad100, lsu100, ldi100, leq2000, lle2000, lge2000, llt2000, lgt2000, lmu2000, lmv2000, lad2000, lsu2000, ldi2000, xlt, ltT]
    exact hX ah h
  | succ n ih =>
    intro s c l5 l6 σ ah h hI hw ht h8 hs hl5 hX
    have hW := hI.W
    have h4 := hI.w4 (w := w) (by omega)
    obtain ⟨hsv, e1, e2⟩ := sv_i hI hw (s := s) (by omega)
    have f1 : xfld ah (A 13 w) 9 0 = some (.ref (A 14 w)) := xfld_of (h.wall hw)
    have hx : xis ah (A 14 w) 1 = True := xis_of (h.strips hw).1
    have hx0 : xis ah (A 13 w) 9 = True := xis_of (h.wall hw)
    have hx2 : xis ah (A 16 (12 * w + s)) 8 = True := xis_of (h.strip hsv)
    have n8 := h8 s (Nat.le_refl _) (by omega)
    have htop := h.top hI hsv n8
    have f4 : xfld ah (A 19 (up σ (12 * w + s))) 2 4 = some (.int (nI (σ 15 (up σ (12 * w + s))))) := xfld_of htop
    have hl := sv_lt hI hsv
    have hul := up_lt n8 (hI.w8 hl) hl
    have hc := hI.c hul
    have hu19 : cU σ τ 19 (up σ (12 * w + s)) := by rw [up_k n8]; exact cU19 hI hsv (by omega)
    have en : ∀ c, c + scn w (n + 1) s σ = c + scv σ w s + scn w n (s + 1) (scr w σ s) := fun c => by
      show c + (scv σ w s + scn w n (s + 1) (scr w σ s)) = _
      omega
    rw [e47_5]
    by_cases q : σ 15 (up σ (12 * w + s)) = 0
    · have ev : scv σ w s = 1 := if_pos q
      have g := h.coatW hu19 (σ 14 (up σ (12 * w + s))) 1 (τ 30 (up σ (12 * w + s)))
      rw [su_id (σ := σ) rfl, su_id (σ := τ) rfl] at g
      have ex : xput ah (A 19 (up σ (12 * w + s))) 4 (.int 1) = xup ah (A 19 (up σ (12 * w + s))) (ccell κ (σ 9 (up σ (12 * w + s))) (σ 10 (up σ (12 * w + s))) (σ 11 (up σ (12 * w + s))) (σ 14 (up σ (12 * w + s))) 1 (τ 30 (up σ (12 * w + s)))) := xput_of htop
      have st := fun l5 l6 hl5 => ih (s + 1) (c + 1) l5 l6 (scr w σ s) _ g (MI_15 hI (Nat.le_refl 1)) (by unfold scr; rw [su_ne (by omega)]; exact hw) (by unfold scr; rw [su_ne (by omega)]; exact ht) (fun j h1 h2 => by unfold scr; rw [su_ne (by omega)]; exact h8 j (by omega) h2) (by omega) hl5 (fun ah' h' => by
        have := hX ah' h'
        rw [en, ev] at this
        exact this)
      simp (disch := omega) only [e47_7, e47_8, e47_11, e47_13, e47_13n, e47_14, e47_17, e47_20, e47_23, e47_23n, e47_24, e47_26, e47_29, e47_29n, e47_31, e47_31n, e47_33n, e47_33, e47_36, e47_37, e47_40, e47_40n, e47_42, e47_45, e47_45n, e47_47, e47_47n, e47_49n, e47_49, e47_52, e47_52n, e47_54, e47_57, e47_60, e47_60n, e47_62, e47_63, e47_66, e47_69, e47_72, xKv, xK0, xKx, xKHv, xKH0, xk_none, xk_i, xk_f, xk_l, xk_r, xk_n, xc_i, xc_f, xc_l, xc_d, xc_r, xc_n, xo_some, List.map_cons, List.map_nil, List.sum_cons, List.sum_nil, xnzn, xpn0, xpn1, xpnb, xpnn, i10, i00, true_imp_iff, false_imp_iff, not_true_eq_false, not_false_eq_true, true_and, and_true, implies_true, xnz0, xnz1, xnzb, xfz0, xfz1, xfzb, Option.isSome_some, if_true, if_false, xbF, xbT, and_false, false_and, Nat.zero_le, Nat.reduceEqDiff, Nat.reduceLeDiff, Nat.reduceAdd, Nat.reduceSub, xiT, xiF, pk_mul, nI_add, Nat.add_sub_cancel, lad0, leq0, lle0, lge0, llt0, lgt0, leq1, lle1, lge1, llt1, lgt1, lad1, lsu1, leq2, lle2, lge2, llt2, lgt2, lmu2, lmv2, lad2, lsu2, ldi2, leq3, lle3, lge3, llt3, lgt3, lmu3, lmv3, lad3, lsu3, ldi3, leq4, lle4, lge4, llt4, lgt4, lmu4, lmv4, lad4, lsu4, ldi4, leq5, lle5, lge5, llt5, lgt5, lmu5, lmv5, lad5, lsu5, ldi5, leq6, lle6, lge6, llt6, lgt6, lmu6, lmv6, lad6, lsu6, ldi6, leq8, lle8, lge8, llt8, lgt8, lmu8, lmv8, lad8, lsu8, ldi8, leq9, lle9, lge9, llt9, lgt9, lmu9, lmv9, lad9, lsu9, ldi9, leq10, lle10, lge10, llt10, lgt10, lmu10, lmv10, lad10, lsu10, ldi10, leq12, lle12, lge12, llt12, lgt12, lmu12, lmv12, lad12, lsu12, ldi12, leq20, lle20, lge20, llt20, lgt20, lmu20, lmv20, lad20, lsu20, ldi20, leq25, lle25, lge25, llt25, lgt25, lmu25, lmv25, lad25, lsu25, ldi25, leq30, lle30, lge30, llt30, lgt30, lmu30, lmv30, lad30, lsu30, ldi30, leq48, lle48, lge48, llt48, lgt48, lmu48, lmv48, lad48, lsu48, ldi48, leq50, lle50, lge50, llt50, lgt50, lmu50, lmv50, lad50, lsu50, ldi50, leq99, lle99, lge99, llt99, lgt99, lmu99, lmv99, lad99, lsu99, ldi99, leq100, lle100, lge100, llt100, lgt100, lmu100, lmv100, lad100, lsu100, ldi100, leq2000, lle2000, lge2000, llt2000, lgt2000, lmu2000, lmv2000, lad2000, lsu2000, ldi2000, xlt, xle, ltF, leF, f1, hx, hx0, hx2, sp_lsize (h.strips hw).1, sp_stripAt h hI hw, hl5, sp_top1 h hI hsv n8, f4, q, ex]
      exact st _ _ rfl
    · have ev : scv σ w s = 0 := if_neg q
      have es : scr w σ s = σ := su_id (by omega)
      have st := fun l5 l6 hl5 => ih (s + 1) c l5 l6 σ _ h hI hw ht (fun j h1 h2 => h8 j (by omega) h2) (by omega) hl5 (fun ah' h' => by
        have h'' : CR κ A (fo (scr w) (n + 1) s σ) τ h0 ah' := by
          show CR κ A (fo (scr w) n (s + 1) (scr w σ s)) τ h0 ah'
          rw [es]; exact h'
        have := hX ah' h''
        rw [en, ev, es, Nat.add_zero] at this
        exact this)
      simp (disch := omega) only [e47_7, e47_8, e47_11, e47_13, e47_13n, e47_14, e47_17, e47_20, e47_23, e47_23n, e47_24, e47_26, e47_29, e47_29n, e47_31, e47_31n, e47_33n, e47_33, e47_36, e47_37, e47_40, e47_40n, e47_42, e47_45, e47_45n, e47_47, e47_47n, e47_49n, e47_49, e47_52, e47_52n, e47_54, e47_57, e47_60, e47_60n, e47_62, e47_63, e47_66, e47_69, e47_72, xKv, xK0, xKx, xKHv, xKH0, xk_none, xk_i, xk_f, xk_l, xk_r, xk_n, xc_i, xc_f, xc_l, xc_d, xc_r, xc_n, xo_some, List.map_cons, List.map_nil, List.sum_cons, List.sum_nil, xnzn, xpn0, xpn1, xpnb, xpnn, i10, i00, true_imp_iff, false_imp_iff, not_true_eq_false, not_false_eq_true, true_and, and_true, implies_true, xnz0, xnz1, xnzb, xfz0, xfz1, xfzb, Option.isSome_some, if_true, if_false, xbF, xbT, and_false, false_and, Nat.zero_le, Nat.reduceEqDiff, Nat.reduceLeDiff, Nat.reduceAdd, Nat.reduceSub, xiT, xiF, pk_mul, nI_add, Nat.add_sub_cancel, lad0, leq0, lle0, lge0, llt0, lgt0, leq1, lle1, lge1, llt1, lgt1, lad1, lsu1, leq2, lle2, lge2, llt2, lgt2, lmu2, lmv2, lad2, lsu2, ldi2, leq3, lle3, lge3, llt3, lgt3, lmu3, lmv3, lad3, lsu3, ldi3, leq4, lle4, lge4, llt4, lgt4, lmu4, lmv4, lad4, lsu4, ldi4, leq5, lle5, lge5, llt5, lgt5, lmu5, lmv5, lad5, lsu5, ldi5, leq6, lle6, lge6, llt6, lgt6, lmu6, lmv6, lad6, lsu6, ldi6, leq8, lle8, lge8, llt8, lgt8, lmu8, lmv8, lad8, lsu8, ldi8, leq9, lle9, lge9, llt9, lgt9, lmu9, lmv9, lad9, lsu9, ldi9, leq10, lle10, lge10, llt10, lgt10, lmu10, lmv10, lad10, lsu10, ldi10, leq12, lle12, lge12, llt12, lgt12, lmu12, lmv12, lad12, lsu12, ldi12, leq20, lle20, lge20, llt20, lgt20, lmu20, lmv20, lad20, lsu20, ldi20, leq25, lle25, lge25, llt25, lgt25, lmu25, lmv25, lad25, lsu25, ldi25, leq30, lle30, lge30, llt30, lgt30, lmu30, lmv30, lad30, lsu30, ldi30, leq48, lle48, lge48, llt48, lgt48, lmu48, lmv48, lad48, lsu48, ldi48, leq50, lle50, lge50, llt50, lgt50, lmu50, lmv50, lad50, lsu50, ldi50, leq99, lle99, lge99, llt99, lgt99, lmu99, lmv99, lad99, lsu99, ldi99, leq100, lle100, lge100, llt100, lgt100, lmu100, lmv100, lad100, lsu100, ldi100, leq2000, lle2000, lge2000, llt2000, lgt2000, lmu2000, lmv2000, lad2000, lsu2000, ldi2000, xlt, xle, ltF, leF, f1, hx, hx0, hx2, sp_lsize (h.strips hw).1, sp_stripAt h hI hw, hl5, sp_top1 h hI hsv n8, f4, q]
      exact st _ _ rfl
theorem sp_scratchT (h : CR κ A σ τ h0 ah) (hI : MI σ) (hw : w < σ 3 0) {f t : Nat} (ht : t < σ 4 w) (hf : f ≤ t) (hn : ¬ offS σ w f t) (hX : ∀ ah', CR κ A (fo (scr w) (t + 1 - f) f σ) τ h0 ah' → R (.inl (some (.int (nI (scn w (t + 1 - f) f σ))))) ah') : xm κ 47 [.ref (A 13 w), .int (nI f), .int (nI t)] ah R := by
  simp (disch := omega) only [e47_0, e47_1, e47_2, e47_3, en47, xKv, xK0, xKx, xKHv, xKH0, xk_none, xk_i, xk_f, xk_l, xk_r, xk_n, xc_i, xc_f, xc_l, xc_d, xc_r, xc_n, xo_some, List.map_cons, List.map_nil, List.sum_cons, List.sum_nil, xnzn, xpn0, xpn1, xpnb, xpnn, i10, i00, true_imp_iff, false_imp_iff, not_true_eq_false, not_false_eq_true, true_and, and_true, implies_true, xnz0, xnz1, xnzb, xfz0, xfz1, xfzb, Option.isSome_some, if_true, if_false, xbF, xbT, and_false, false_and, Nat.zero_le, Nat.reduceEqDiff, Nat.reduceLeDiff, Nat.reduceAdd, Nat.reduceSub, xiT, xiF, pk_mul, nI_add, Nat.add_sub_cancel, lad0, leq0, lle0, lge0, llt0, lgt0, leq1, lle1, lge1, llt1, lgt1, lad1, lsu1, leq2, lle2, lge2, llt2, lgt2, lmu2, lmv2, lad2, lsu2, ldi2, leq3, lle3, lge3, llt3, lgt3, lmu3, lmv3, lad3, lsu3, ldi3, leq4, lle4, lge4, llt4, lgt4, lmu4, lmv4, lad4, lsu4, ldi4, leq5, lle5, lge5, llt5, lgt5, lmu5, lmv5, lad5, lsu5, ldi5, leq6, lle6, lge6, llt6, lgt6, lmu6, lmv6, lad6, lsu6, ldi6, leq8, lle8, lge8, llt8, lgt8, lmu8, lmv8, lad8, lsu8, ldi8, leq9, lle9, lge9, llt9, lgt9, lmu9, lmv9, lad9, lsu9, ldi9, leq10, lle10, lge10, llt10, lgt10, lmu10, lmv10, lad10, lsu10, ldi10, leq12, lle12, lge12, llt12, lgt12, lmu12, lmv12, lad12, lsu12, ldi12, leq20, lle20, lge20, llt20, lgt20, lmu20, lmv20, lad20, lsu20, ldi20, leq25, lle25, lge25, llt25, lgt25, lmu25, lmv25, lad25, lsu25, ldi25, leq30, lle30, lge30, llt30, lgt30, lmu30, lmv30, lad30, lsu30, ldi30, leq48, lle48, lge48, llt48, lgt48, lmu48, lmv48, lad48, lsu48, ldi48, leq50, lle50, lge50, llt50, lgt50, lmu50, lmv50, lad50, lsu50, ldi50, leq99, lle99, lge99, llt99, lgt99, lmu99, lmv99, lad99, lsu99, ldi99, leq100, lle100, lge100, llt100, lgt100, lmu100, lmv100, lad100, lsu100, ldi100, leq2000, lle2000, lge2000, llt2000, lgt2000, lmu2000, lmv2000, lad2000, lsu2000, ldi2000]
  exact lp_scratchT (t + 1 - f) f 0 none none σ ah h hI hw ht (fun j h1 h2 q => hn ⟨j, h1, h2, Or.inl q⟩) (by omega) rfl (fun ah' h' => by rw [Nat.zero_add]; exact hX ah' h')
end

