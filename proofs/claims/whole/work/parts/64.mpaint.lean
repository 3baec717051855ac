/-! paint -/
noncomputable def pt1 (x : Int64) (p g c : Nat) (σ : xS) (j : Nat) : xS := xi (bt x j ∧ σ 22 j = p + 1) (su (su σ 23 j (g + 1)) 24 j c) σ
noncomputable def ptv (x : Int64) (p : Nat) (σ : xS) (j : Nat) : Nat := xi (bt x j ∧ σ 22 j = p + 1) 1 0
noncomputable def ptn (x : Int64) (p : Nat) (σ : xS) : Nat → Nat → Nat
  | 0, _ => 0
  | n + 1, j => ptv x p σ j + ptn x p σ n (j + 1)
theorem pt1_o {x : Int64} {p g c k i j : Nat} {σ : xS} (hc : k ≠ 23 ∧ k ≠ 24) : pt1 x p g c σ j k i = σ k i := by
  unfold pt1
  by_cases h : bt x j ∧ σ 22 j = p + 1
  · rw [xi_t h]
    simp (disch := omega) only [su_ne]
  · rw [xi_f h]
theorem ptn_22 {x : Int64} {p : Nat} {σ τ : xS} (h : ∀ i, τ 22 i = σ 22 i) : ∀ (n j : Nat), ptn x p τ n j = ptn x p σ n j := by
  intro n
  induction n with
  | zero => intro j; rfl
  | succ n ih =>
    intro j
    show ptv x p τ j + ptn x p τ n (j + 1) = ptv x p σ j + ptn x p σ n (j + 1)
    rw [ih, ptv, ptv, h]
noncomputable def oldP (σ : xS) (p g : Nat) : Prop := σ 19 g < σ 0 0 - σ 21 p
noncomputable def t_paint (σ : xS) (p g : Int32) (sc : Prop) : Nat := xi (xin p (σ 20 0) ∧ xin g 10) (xi (oldP σ p.toNatClampNeg g.toNatClampNeg ↔ sc) 0 2) 1
noncomputable def s_paint (σ : xS) (p g : Int32) (x : Int64) (sc : Prop) : xS := xi (t_paint σ p g sc = 0) (fo (pt1 x p.toNatClampNeg g.toNatClampNeg (xi sc 1 0)) 48 0 σ) σ
noncomputable def v_paint (σ : xS) (p g : Int32) (x : Int64) (sc : Prop) : Int32 := xi (t_paint σ p g sc = 0) (nI (ptn x p.toNatClampNeg σ 48 0)) 0
theorem xbn {sc : Prop} : xb sc = nI (xi sc 1 0) := by
  by_cases h : sc
  · rw [xb_t h, xi_t h]; rfl
  · rw [xb_f h, xi_f h]; rfl
theorem cv22e {n p : Nat} (hn : n < 2 ^ 30) (hp : p < 2 ^ 30) : (cv 22 n = nI p) = (n = p + 1) := by
  cases n with
  | zero =>
    have : ¬ (0 : Nat) = p + 1 := by omega
    rw [cv220, eq_false this]
    apply eq_false
    intro e
    exact absurd e.symm (by rw [nIneg (by omega)]; exact id)
  | succ n => rw [cv22, xeq (by omega) (by omega)]; exact propext ⟨fun e => by omega, fun e => by omega⟩
section
variable {κ : Nat → Nat} {R : xR → xH → Prop} {ad : Nat → Nat} {m : Nat} {ah0 ah : xH} {σ : xS} {th : Nat}
theorem lp_paint {x : Int64} {p g : Nat} {sc : Prop} {b6 b7 : Int32} (hp : p < 30) (hg : g < 10) : ∀ (n s c : Nat) (σ : xS) (ah : xH), MR ad m ah0 ah σ th → (∀ i, i < 48 → σ 22 i ≤ 30) → s + n = 48 → c ≤ s →
    (∀ ah', MR ad m ah0 ah' (fo (pt1 x p g (xi sc 1 0)) n s σ) th → xW (T137 κ) (xm κ) R (143, [some (.ref m), some (.int (nI p)), some (.int (nI g)), some (.long x), none, some (.int (xb sc)), some (.int b6), some (.int b7), some (.int (nI (c + ptn x p σ n s))), some (.int (nI 48))], [], ah', 0, 0)) →
    xW (T137 κ) (xm κ) R (90, [some (.ref m), some (.int (nI p)), some (.int (nI g)), some (.long x), none, some (.int (xb sc)), some (.int b6), some (.int b7), some (.int (nI c)), some (.int (nI s))], [], ah, 0, 0) := by
  intro n
  induction n with
  | zero =>
    intro s c σ ah h h22 hs hc hX
    have hs' : s = 48 := by omega
    subst hs'
    rw [e137_90]
    simp (disch := omega) only [e137_92, e137_94, e137_97, e137_98, e137_100, e137_103, e137_106, e137_106n, e137_107, e137_110, e137_112, e137_113, e137_114, e137_117, e137_117n, e137_118, e137_121, e137_123, e137_124, e137_125, e137_125n, e137_126, e137_129, e137_131, e137_133, e137_134, e137_137, e137_140, xKv, xK0, xKx, xKHv, xKH0, xk_none, xk_i, xk_f, xk_l, xk_r, xk_n, xc_i, xc_f, xc_l, xc_d, xc_r, xc_n, xo_some, List.map_cons, List.map_nil, List.sum_cons, List.sum_nil, xnzn, xpn0, xpn1, xpnb, xpnn, i10, i00, true_imp_iff, false_imp_iff, not_true_eq_false, not_false_eq_true, true_and, and_true, implies_true, xnz0, xnz1, xnzb, xfz0, xfz1, xfzb, Option.isSome_some, if_true, if_false, xbF, xbT, and_false, false_and, Nat.zero_le, Nat.reduceEqDiff, Nat.reduceLeDiff, Nat.reduceAdd, Nat.reduceSub, xiT, xiF, pk_mul, nI_add, Nat.add_sub_cancel, lad0, leq0, lle0, lge0, llt0, lgt0, leq1, lle1, lge1, llt1, lgt1, lad1, lsu1, leq2, lle2, lge2, llt2, lgt2, lmu2, lmv2, lad2, lsu2, ldi2, leq3, lle3, lge3, llt3, lgt3, lmu3, lmv3, lad3, lsu3, ldi3, leq4, lle4, lge4, llt4, lgt4, lmu4, lmv4, lad4, lsu4, ldi4, leq5, lle5, lge5, llt5, lgt5, lmu5, lmv5, lad5, lsu5, ldi5, leq6, lle6, lge6, llt6, lgt6, lmu6, lmv6, lad6, lsu6, ldi6, leq8, lle8, lge8, llt8, lgt8, lmu8, lmv8, lad8, lsu8, ldi8, leq9, lle9, lge9, llt9, lgt9, lmu9, lmv9, lad9, lsu9, ldi9, leq10, lle10, lge10, llt10, lgt10, lmu10, lmv10, lad10, lsu10, ldi10, leq12, lle12, lge12, llt12, lgt12, lmu12, lmv12, lad12, lsu12, ldi12, leq20, lle20, lge20, llt20, lgt20, lmu20, lmv20, lad20, lsu20, ldi20, leq25, lle25, lge25, llt25, lgt25, lmu25, lmv25, lad25, lsu25, ldi25, leq30, lle30, lge30, llt30, lgt30, lmu30, lmv30, lad30, lsu30, ldi30, leq48, lle48, lge48, llt48, lgt48, lmu48, lmv48, lad48, lsu48, ldi48, leq50, lle50, lge50, llt50, lgt50, lmu50, lmv50, lad50, lsu50, ldi50, leq99, lle99, lge99, llt99, lgt99, lmu99, lmv99, lad99, lsu99, ldi99, leq100, lle100, lge100, llt100, lgt100, lmu100, lmv100, lad100, lsu100, ldi100, leq2000, lle2000, lge2000, llt2000, lgt2000, lmu2000, lmv2000, lad2000, lsu2000, ldi2000, Nat.le_refl]
    exact hX ah h
  | succ n ih =>
    intro s c σ ah h h22 hs hc hX
    have hlt : ¬ 48 ≤ s := by omega
    have q22 := h22 s (by omega)
    obtain ⟨f22, ha22, hf22⟩ := h.r22
    have e22 := hf22 s (by omega)
    by_cases hb : bt x s
    · by_cases hc22 : σ 22 s = p + 1
      · obtain ⟨f23, ha23, hf23⟩ := h.r23
        have g2 := h.w23 s (g + 1) ha23 (by omega) (x := nI g) cv23.symm
        obtain ⟨f24, ha24, hf24⟩ := g2.r24
        have g3 := g2.w24 s (xi sc 1 0) ha24 (by omega) (x := xb sc) xbn
        have e : pt1 x p g (xi sc 1 0) σ s = su (su σ 23 s (g + 1)) 24 s (xi sc 1 0) := xi_t ⟨hb, hc22⟩
        have ev : ptv x p σ s = 1 := xi_t ⟨hb, hc22⟩
        rw [← e] at g3
        have fin := ih (s + 1) (c + 1) _ _ g3 (fun i hi => by rw [pt1_o (by decide)]; exact h22 i hi) (by omega) (by omega) (fun ah' h1 => by
          have := hX ah' h1
          have e2 : c + 1 + ptn x p (pt1 x p g (xi sc 1 0) σ s) n (s + 1) = c + ptn x p σ (n + 1) s := by
            rw [ptn_22 (fun i => pt1_o (by decide))]
            show c + 1 + ptn x p σ n (s + 1) = c + (ptv x p σ s + ptn x p σ n (s + 1))
            omega
          rw [e2]
          exact this)
        have e22' : (σ 22 s = p + 1) = True := eq_true hc22
        rw [e137_90]
        simp (disch := omega) only [e137_92, e137_94, e137_97, e137_98, e137_100, e137_103, e137_106, e137_106n, e137_107, e137_110, e137_112, e137_113, e137_114, e137_117, e137_117n, e137_118, e137_121, e137_123, e137_124, e137_125, e137_125n, e137_126, e137_129, e137_131, e137_133, e137_134, e137_137, e137_140, xKv, xK0, xKx, xKHv, xKH0, xk_none, xk_i, xk_f, xk_l, xk_r, xk_n, xc_i, xc_f, xc_l, xc_d, xc_r, xc_n, xo_some, List.map_cons, List.map_nil, List.sum_cons, List.sum_nil, xnzn, xpn0, xpn1, xpnb, xpnn, i10, i00, true_imp_iff, false_imp_iff, not_true_eq_false, not_false_eq_true, true_and, and_true, implies_true, xnz0, xnz1, xnzb, xfz0, xfz1, xfzb, Option.isSome_some, if_true, if_false, xbF, xbT, and_false, false_and, Nat.zero_le, Nat.reduceEqDiff, Nat.reduceLeDiff, Nat.reduceAdd, Nat.reduceSub, xiT, xiF, pk_mul, nI_add, Nat.add_sub_cancel, lad0, leq0, lle0, lge0, llt0, lgt0, leq1, lle1, lge1, llt1, lgt1, lad1, lsu1, leq2, lle2, lge2, llt2, lgt2, lmu2, lmv2, lad2, lsu2, ldi2, leq3, lle3, lge3, llt3, lgt3, lmu3, lmv3, lad3, lsu3, ldi3, leq4, lle4, lge4, llt4, lgt4, lmu4, lmv4, lad4, lsu4, ldi4, leq5, lle5, lge5, llt5, lgt5, lmu5, lmv5, lad5, lsu5, ldi5, leq6, lle6, lge6, llt6, lgt6, lmu6, lmv6, lad6, lsu6, ldi6, leq8, lle8, lge8, llt8, lgt8, lmu8, lmv8, lad8, lsu8, ldi8, leq9, lle9, lge9, llt9, lgt9, lmu9, lmv9, lad9, lsu9, ldi9, leq10, lle10, lge10, llt10, lgt10, lmu10, lmv10, lad10, lsu10, ldi10, leq12, lle12, lge12, llt12, lgt12, lmu12, lmv12, lad12, lsu12, ldi12, leq20, lle20, lge20, llt20, lgt20, lmu20, lmv20, lad20, lsu20, ldi20, leq25, lle25, lge25, llt25, lgt25, lmu25, lmv25, lad25, lsu25, ldi25, leq30, lle30, lge30, llt30, lgt30, lmu30, lmv30, lad30, lsu30, ldi30, leq48, lle48, lge48, llt48, lgt48, lmu48, lmv48, lad48, lsu48, ldi48, leq50, lle50, lge50, llt50, lgt50, lmu50, lmv50, lad50, lsu50, ldi50, leq99, lle99, lge99, llt99, lgt99, lmu99, lmv99, lad99, lsu99, ldi99, leq100, lle100, lge100, llt100, lgt100, lmu100, lmv100, lad100, lsu100, ldi100, leq2000, lle2000, lge2000, llt2000, lgt2000, lmu2000, lmv2000, lad2000, lsu2000, ldi2000, hlt, sp_m_has, hb, h.a 22, ha22, e22, cv22e, e22', h.a 23, ha23, g2.a 24, ha24, xin_nI, nI_cl]
        exact fin
      · have e : pt1 x p g (xi sc 1 0) σ s = σ := xi_f (fun q => hc22 q.2)
        have ev : ptv x p σ s = 0 := xi_f (fun q => hc22 q.2)
        have fin := ih (s + 1) c _ _ h h22 (by omega) (by omega) (fun ah' h1 => by
          have := hX ah' (by show MR ad m ah0 ah' (fo _ n (s + 1) (pt1 x p g (xi sc 1 0) σ s)) th; rw [e]; exact h1)
          have e2 : c + ptn x p σ n (s + 1) = c + ptn x p σ (n + 1) s := by
            show c + ptn x p σ n (s + 1) = c + (ptv x p σ s + ptn x p σ n (s + 1))
            omega
          rw [e2]
          exact this)
        rw [e137_90]
        simp (disch := omega) only [e137_92, e137_94, e137_97, e137_98, e137_100, e137_103, e137_106, e137_106n, e137_107, e137_110, e137_112, e137_113, e137_114, e137_117, e137_117n, e137_118, e137_121, e137_123, e137_124, e137_125, e137_125n, e137_126, e137_129, e137_131, e137_133, e137_134, e137_137, e137_140, xKv, xK0, xKx, xKHv, xKH0, xk_none, xk_i, xk_f, xk_l, xk_r, xk_n, xc_i, xc_f, xc_l, xc_d, xc_r, xc_n, xo_some, List.map_cons, List.map_nil, List.sum_cons, List.sum_nil, xnzn, xpn0, xpn1, xpnb, xpnn, i10, i00, true_imp_iff, false_imp_iff, not_true_eq_false, not_false_eq_true, true_and, and_true, implies_true, xnz0, xnz1, xnzb, xfz0, xfz1, xfzb, Option.isSome_some, if_true, if_false, xbF, xbT, and_false, false_and, Nat.zero_le, Nat.reduceEqDiff, Nat.reduceLeDiff, Nat.reduceAdd, Nat.reduceSub, xiT, xiF, pk_mul, nI_add, Nat.add_sub_cancel, lad0, leq0, lle0, lge0, llt0, lgt0, leq1, lle1, lge1, llt1, lgt1, lad1, lsu1, leq2, lle2, lge2, llt2, lgt2, lmu2, lmv2, lad2, lsu2, ldi2, leq3, lle3, lge3, llt3, lgt3, lmu3, lmv3, lad3, lsu3, ldi3, leq4, lle4, lge4, llt4, lgt4, lmu4, lmv4, lad4, lsu4, ldi4, leq5, lle5, lge5, llt5, lgt5, lmu5, lmv5, lad5, lsu5, ldi5, leq6, lle6, lge6, llt6, lgt6, lmu6, lmv6, lad6, lsu6, ldi6, leq8, lle8, lge8, llt8, lgt8, lmu8, lmv8, lad8, lsu8, ldi8, leq9, lle9, lge9, llt9, lgt9, lmu9, lmv9, lad9, lsu9, ldi9, leq10, lle10, lge10, llt10, lgt10, lmu10, lmv10, lad10, lsu10, ldi10, leq12, lle12, lge12, llt12, lgt12, lmu12, lmv12, lad12, lsu12, ldi12, leq20, lle20, lge20, llt20, lgt20, lmu20, lmv20, lad20, lsu20, ldi20, leq25, lle25, lge25, llt25, lgt25, lmu25, lmv25, lad25, lsu25, ldi25, leq30, lle30, lge30, llt30, lgt30, lmu30, lmv30, lad30, lsu30, ldi30, leq48, lle48, lge48, llt48, lgt48, lmu48, lmv48, lad48, lsu48, ldi48, leq50, lle50, lge50, llt50, lgt50, lmu50, lmv50, lad50, lsu50, ldi50, leq99, lle99, lge99, llt99, lgt99, lmu99, lmv99, lad99, lsu99, ldi99, leq100, lle100, lge100, llt100, lgt100, lmu100, lmv100, lad100, lsu100, ldi100, leq2000, lle2000, lge2000, llt2000, lgt2000, lmu2000, lmv2000, lad2000, lsu2000, ldi2000, hlt, sp_m_has, hb, h.a 22, ha22, e22, cv22e, hc22, xin_nI, nI_cl]
        exact fin
    · have e : pt1 x p g (xi sc 1 0) σ s = σ := xi_f (fun q => hb q.1)
      have ev : ptv x p σ s = 0 := xi_f (fun q => hb q.1)
      have fin := ih (s + 1) c _ _ h h22 (by omega) (by omega) (fun ah' h1 => by
        have := hX ah' (by show MR ad m ah0 ah' (fo _ n (s + 1) (pt1 x p g (xi sc 1 0) σ s)) th; rw [e]; exact h1)
        have e2 : c + ptn x p σ n (s + 1) = c + ptn x p σ (n + 1) s := by
          show c + ptn x p σ n (s + 1) = c + (ptv x p σ s + ptn x p σ n (s + 1))
          omega
        rw [e2]
        exact this)
      rw [e137_90]
      simp (disch := omega) only [e137_92, e137_94, e137_97, e137_98, e137_100, e137_103, e137_106, e137_106n, e137_107, e137_110, e137_112, e137_113, e137_114, e137_117, e137_117n, e137_118, e137_121, e137_123, e137_124, e137_125, e137_125n, e137_126, e137_129, e137_131, e137_133, e137_134, e137_137, e137_140, xKv, xK0, xKx, xKHv, xKH0, xk_none, xk_i, xk_f, xk_l, xk_r, xk_n, xc_i, xc_f, xc_l, xc_d, xc_r, xc_n, xo_some, List.map_cons, List.map_nil, List.sum_cons, List.sum_nil, xnzn, xpn0, xpn1, xpnb, xpnn, i10, i00, true_imp_iff, false_imp_iff, not_true_eq_false, not_false_eq_true, true_and, and_true, implies_true, xnz0, xnz1, xnzb, xfz0, xfz1, xfzb, Option.isSome_some, if_true, if_false, xbF, xbT, and_false, false_and, Nat.zero_le, Nat.reduceEqDiff, Nat.reduceLeDiff, Nat.reduceAdd, Nat.reduceSub, xiT, xiF, pk_mul, nI_add, Nat.add_sub_cancel, lad0, leq0, lle0, lge0, llt0, lgt0, leq1, lle1, lge1, llt1, lgt1, lad1, lsu1, leq2, lle2, lge2, llt2, lgt2, lmu2, lmv2, lad2, lsu2, ldi2, leq3, lle3, lge3, llt3, lgt3, lmu3, lmv3, lad3, lsu3, ldi3, leq4, lle4, lge4, llt4, lgt4, lmu4, lmv4, lad4, lsu4, ldi4, leq5, lle5, lge5, llt5, lgt5, lmu5, lmv5, lad5, lsu5, ldi5, leq6, lle6, lge6, llt6, lgt6, lmu6, lmv6, lad6, lsu6, ldi6, leq8, lle8, lge8, llt8, lgt8, lmu8, lmv8, lad8, lsu8, ldi8, leq9, lle9, lge9, llt9, lgt9, lmu9, lmv9, lad9, lsu9, ldi9, leq10, lle10, lge10, llt10, lgt10, lmu10, lmv10, lad10, lsu10, ldi10, leq12, lle12, lge12, llt12, lgt12, lmu12, lmv12, lad12, lsu12, ldi12, leq20, lle20, lge20, llt20, lgt20, lmu20, lmv20, lad20, lsu20, ldi20, leq25, lle25, lge25, llt25, lgt25, lmu25, lmv25, lad25, lsu25, ldi25, leq30, lle30, lge30, llt30, lgt30, lmu30, lmv30, lad30, lsu30, ldi30, leq48, lle48, lge48, llt48, lgt48, lmu48, lmv48, lad48, lsu48, ldi48, leq50, lle50, lge50, llt50, lgt50, lmu50, lmv50, lad50, lsu50, ldi50, leq99, lle99, lge99, llt99, lgt99, lmu99, lmv99, lad99, lsu99, ldi99, leq100, lle100, lge100, llt100, lgt100, lmu100, lmv100, lad100, lsu100, ldi100, leq2000, lle2000, lge2000, llt2000, lgt2000, lmu2000, lmv2000, lad2000, lsu2000, ldi2000, hlt, sp_m_has, hb]
      exact fin
end
