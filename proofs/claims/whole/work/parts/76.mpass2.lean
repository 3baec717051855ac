/-! pass: the days -/
noncomputable def drn : Nat → Nat → xS → Nat
  | 0, _, _ => 0
  | n + 1, a, σ => dryv σ a + drn n (a + 1) (dry1 σ a)
noncomputable def pasd : Nat → xS → xS
  | 0, σ => σ
  | n + 1, σ => pasd n (fo dry1 (12 * σ 3 0) 0 (su σ 0 0 (σ 0 0 + 1)))
noncomputable def pasv : Nat → xS → Nat
  | 0, _ => 0
  | n + 1, σ => drn (12 * σ 3 0) 0 (su σ 0 0 (σ 0 0 + 1)) + pasv n (fo dry1 (12 * σ 3 0) 0 (su σ 0 0 (σ 0 0 + 1)))
noncomputable def t_pass (σ : xS) (d : Int32) : Nat := xi (xrg d 1 100) (xi (σ 0 0 + d.toNatClampNeg ≤ 2000) 0 2) 1
noncomputable def s_pass (σ : xS) (d : Int32) : xS := xi (t_pass σ d = 0) (pasd d.toNatClampNeg σ) σ
noncomputable def v_pass (σ : xS) (d : Int32) : Int32 := xi (t_pass σ d = 0) (nI (pasv d.toNatClampNeg σ)) 0
theorem dry1_o {σ : xS} {a c i : Nat} (hc : ¬ ((c = 12 ∨ c = 13 ∨ c = 14) ∧ i = up σ a)) : dry1 σ a c i = σ c i := by
  unfold dry1
  by_cases h : offD σ a
  · rw [xi_t h]
  · rw [xi_f h]
    by_cases h2 : ndu σ (up σ a) ≤ σ 12 (up σ a) + mor σ a
    · rw [xi_t h2]
      simp (disch := omega) only [su_ne]
    · rw [xi_f h2]
      simp (disch := omega) only [su_ne]
theorem dry1_r {σ : xS} {a c i : Nat} (hc : ¬ (c = 12 ∨ c = 13 ∨ c = 14)) : dry1 σ a c i = σ c i := dry1_o (fun q => hc q.1)
theorem ndu_dry1 {σ : xS} {a u : Nat} : ndu (dry1 σ a) u = ndu σ u := by
  unfold ndu
  rw [dry1_r (by decide), dry1_r (by decide)]
theorem dry1_12 {σ : xS} {a : Nat} (h : ¬ offD σ a) : dry1 σ a 12 (up σ a) = σ 12 (up σ a) + mor σ a := by
  unfold dry1
  rw [xi_f h]
  by_cases h2 : ndu σ (up σ a) ≤ σ 12 (up σ a) + mor σ a
  · rw [xi_t h2]; simp (disch := omega) only [su_ne, su_eq]
  · rw [xi_f h2]; simp (disch := omega) only [su_ne, su_eq]
theorem dry1_13 {σ : xS} {a : Nat} (h : ¬ offD σ a) : dry1 σ a 13 (up σ a) = xi (ndu σ (up σ a) ≤ σ 12 (up σ a) + mor σ a) 1 0 := by
  unfold dry1
  rw [xi_f h]
  by_cases h2 : ndu σ (up σ a) ≤ σ 12 (up σ a) + mor σ a
  · rw [xi_t h2, xi_t h2]; simp (disch := omega) only [su_ne, su_eq]
  · rw [xi_f h2, xi_f h2]; simp (disch := omega) only [su_ne, su_eq]
theorem dry1_14 {σ : xS} {a : Nat} (h : ¬ offD σ a) : dry1 σ a 14 (up σ a) = xi (¬ σ 14 (up σ a) = 0 ∨ (ndu σ (up σ a) ≤ σ 12 (up σ a) + mor σ a ∧ σ 9 (up σ a) = 3 ∧ 30 ≤ σ 1 0)) 1 0 := by
  unfold dry1
  rw [xi_f h]
  by_cases h2 : ndu σ (up σ a) ≤ σ 12 (up σ a) + mor σ a
  · rw [xi_t h2, su_eq]
    by_cases h3 : crD σ (up σ a)
    · rw [xi_t h3, xi_t (h3.elim Or.inl (fun q => Or.inr ⟨h2, q⟩))]
    · rw [xi_f h3, xi_f (fun q => h3 (q.elim Or.inl (fun q => Or.inr q.2)))]
  · rw [xi_f h2, su_eq]
    by_cases h3 : σ 14 (up σ a) = 0
    · rw [xi_f (fun q => q h3), xi_f (fun q => q.elim (fun q => q h3) (fun q => h2 q.1))]
    · rw [xi_t h3, xi_t (Or.inl h3)]
theorem xi01 (p : Prop) : xi p 1 0 ≤ 1 := by
  by_cases h : p
  · rw [xi_t h]; exact Nat.le_refl 1
  · rw [xi_f h]; exact Nat.zero_le 1
section
variable {κ : Nat → Nat} {R : xR → xH → Prop} {ad : Nat → Nat} {m : Nat} {ah0 ah : xH} {σ : xS} {th : Nat}
theorem MI_dry1 (hI : MI σ) (hN : NIc σ) {a : Nat} (ha : a < 120) : MI (dry1 σ a) := by
  have h6 := hI.w8 ha
  have hm := mor_le hI a
  have hI' := hI
  obtain ⟨i0, i1, i2, i3, i4, i5, i6, i7, i8, i9, i10, i11, i12, i13, i14, i15, i16, i17⟩ := hI
  unfold MI
  simp (disch := omega) only [dry1_r]
  refine ⟨i0, i1, i2, i3, i4, i5, i6, fun c hc => ?_, i8, i9, i10, i11, i12, i13, i14, i15, i16, i17⟩
  have := i7 c hc
  by_cases ho : offD σ a
  · have e : dry1 σ a = σ := xi_t ho
    rw [e]; exact this
  · have h8 : ¬ σ 8 a = 0 := fun q => ho (Or.inl q)
    have h13 : σ 13 (up σ a) = 0 := Classical.byContradiction (fun q => ho (Or.inr q))
    have hp := hN.p hI' ha h8 h13
    by_cases e : c = up σ a
    · subst e
      rw [dry1_12 ho, dry1_13 ho, dry1_14 ho]
      exact ⟨this.1, this.2.1, this.2.2.1, by omega, xi01 _, xi01 _, this.2.2.2.2.2.2⟩
    · rw [dry1_o (fun q => e q.2), dry1_o (fun q => e q.2), dry1_o (fun q => e q.2)]
      exact this
theorem NIc_dry1 (hN : NIc σ) {a : Nat} : NIc (dry1 σ a) := by
  intro b k hb hk
  rw [dry1_r (by decide)] at hk
  rw [dry1_r (by decide), ndu_dry1]
  have := hN b k hb hk
  refine ⟨this.1, ?_⟩
  by_cases ho : offD σ a
  · have e : dry1 σ a = σ := xi_t ho
    rw [e]; exact this.2
  · by_cases e : 6 * b + k = up σ a
    · rw [e, dry1_12 ho, dry1_13 ho]
      by_cases h2 : ndu σ (up σ a) ≤ σ 12 (up σ a) + mor σ a
      · rw [xi_t h2]; exact ⟨fun _ => h2, fun _ => rfl⟩
      · rw [xi_f h2]; exact ⟨fun q => absurd q (by decide), fun q => absurd q h2⟩
    · rw [dry1_o (fun q => e q.2), dry1_o (fun q => e q.2)]
      exact this.2
theorem dryv_le (a : Nat) : dryv σ a ≤ 1 := by
  unfold dryv
  by_cases h : offD σ a
  · rw [xi_t h]; exact Nat.zero_le 1
  · rw [xi_f h]; exact xi01 _
theorem MI_day (hI : MI σ) (h : σ 0 0 + 1 ≤ 2000) : MI (su σ 0 0 (σ 0 0 + 1)) := by
  obtain ⟨i0, i⟩ := hI
  unfold MI
  simp (disch := omega) only [su_ne, su_eq]
  exact ⟨h, i⟩
theorem NIc_day (hN : NIc σ) {v : Nat} : NIc (su σ 0 0 v) := by
  intro b k hb hk
  unfold ndu
  simp (disch := omega) only [su_ne] at hk ⊢
  exact hN b k hb hk
theorem lp_strips {l1 : Option Value} {i2 kk : Int32} : ∀ (n s c : Nat) (σ : xS) (ah : xH), s + n = 12 * σ 3 0 → MR ad m ah0 ah σ th → MI σ → NIc σ →
    (∀ ah', MR ad m ah0 ah' (fo dry1 n s σ) th → MI (fo dry1 n s σ) → NIc (fo dry1 n s σ) → fo dry1 n s σ 0 0 = σ 0 0 → xW (T116 κ) (xm κ) R (101, [some (.ref m), l1, some (.int i2), some (.int (nI (c + drn n s σ))), some (.int kk), some (.int (nI (12 * σ 3 0)))], [], ah', 0, 0)) →
    xW (T116 κ) (xm κ) R (66, [some (.ref m), l1, some (.int i2), some (.int (nI c)), some (.int kk), some (.int (nI s))], [], ah, 0, 0) := by
  intro n
  induction n with
  | zero =>
    intro s c σ ah hs h hI hN hX
    have hW := hI.W
    have hs' : s = 12 * σ 3 0 := by omega
    subst hs'
    rw [e116_66]
    simp (disch := omega) only [e116_68, e116_70, e116_70n, e116_71, e116_74, e116_75, e116_78, e116_79, e116_79n, e116_80, e116_82, e116_85, e116_88, e116_89, e116_92, e116_93, e116_94, e116_95, e116_98, xKv, xK0, xKx, xKHv, xKH0, xk_none, xk_i, xk_f, xk_l, xk_r, xk_n, xc_i, xc_f, xc_l, xc_d, xc_r, xc_n, xo_some, List.map_cons, List.map_nil, List.sum_cons, List.sum_nil, xnzn, xpn0, xpn1, xpnb, xpnn, i10, i00, true_imp_iff, false_imp_iff, not_true_eq_false, not_false_eq_true, true_and, and_true, implies_true, xnz0, xnz1, xnzb, xfz0, xfz1, xfzb, Option.isSome_some, if_true, if_false, xbF, xbT, and_false, false_and, Nat.zero_le, Nat.reduceEqDiff, Nat.reduceLeDiff, Nat.reduceAdd, Nat.reduceSub, xiT, xiF, pk_mul, nI_add, Nat.add_sub_cancel, lad0, leq0, lle0, lge0, llt0, lgt0, leq1, lle1, lge1, llt1, lgt1, lad1, lsu1, leq2, lle2, lge2, llt2, lgt2, lmu2, lmv2, lad2, lsu2, ldi2, leq3, lle3, lge3, llt3, lgt3, lmu3, lmv3, lad3, lsu3, ldi3, leq4, lle4, lge4, llt4, lgt4, lmu4, lmv4, lad4, lsu4, ldi4, leq5, lle5, lge5, llt5, lgt5, lmu5, lmv5, lad5, lsu5, ldi5, leq6, lle6, lge6, llt6, lgt6, lmu6, lmv6, lad6, lsu6, ldi6, leq8, lle8, lge8, llt8, lgt8, lmu8, lmv8, lad8, lsu8, ldi8, leq9, lle9, lge9, llt9, lgt9, lmu9, lmv9, lad9, lsu9, ldi9, leq10, lle10, lge10, llt10, lgt10, lmu10, lmv10, lad10, lsu10, ldi10, leq12, lle12, lge12, llt12, lgt12, lmu12, lmv12, lad12, lsu12, ldi12, leq20, lle20, lge20, llt20, lgt20, lmu20, lmv20, lad20, lsu20, ldi20, leq25, lle25, lge25, llt25, lgt25, lmu25, lmv25, lad25, lsu25, ldi25, leq30, lle30, lge30, llt30, lgt30, lmu30, lmv30, lad30, lsu30, ldi30, leq48, lle48, lge48, llt48, lgt48, lmu48, lmv48, lad48, lsu48, ldi48, leq50, lle50, lge50, llt50, lgt50, lmu50, lmv50, lad50, lsu50, ldi50, leq99, lle99, lge99, llt99, lgt99, lmu99, lmv99, lad99, lsu99, ldi99, leq100, lle100, lge100, llt100, lgt100, lmu100, lmv100, lad100, lsu100, ldi100, leq2000, lle2000, lge2000, llt2000, lgt2000, lmu2000, lmv2000, lad2000, lsu2000, ldi2000, h.s 3, xle, Nat.le_refl]
    exact hX ah h hI hN rfl
  | succ n ih =>
    intro s c σ ah hs h hI hN hX
    have hW := hI.W
    have hlt : ¬ 12 * σ 3 0 ≤ s := by omega
    rw [e116_66]
    simp (disch := omega) only [e116_68, e116_70, e116_70n, e116_71, e116_74, e116_75, e116_78, e116_79, e116_79n, e116_80, xKv, xK0, xKx, xKHv, xKH0, xk_none, xk_i, xk_f, xk_l, xk_r, xk_n, xc_i, xc_f, xc_l, xc_d, xc_r, xc_n, xo_some, List.map_cons, List.map_nil, List.sum_cons, List.sum_nil, xnzn, xpn0, xpn1, xpnb, xpnn, i10, i00, true_imp_iff, false_imp_iff, not_true_eq_false, not_false_eq_true, true_and, and_true, implies_true, xnz0, xnz1, xnzb, xfz0, xfz1, xfzb, Option.isSome_some, if_true, if_false, xbF, xbT, and_false, false_and, Nat.zero_le, Nat.reduceEqDiff, Nat.reduceLeDiff, Nat.reduceAdd, Nat.reduceSub, xiT, xiF, pk_mul, nI_add, Nat.add_sub_cancel, lad0, leq0, lle0, lge0, llt0, lgt0, leq1, lle1, lge1, llt1, lgt1, lad1, lsu1, leq2, lle2, lge2, llt2, lgt2, lmu2, lmv2, lad2, lsu2, ldi2, leq3, lle3, lge3, llt3, lgt3, lmu3, lmv3, lad3, lsu3, ldi3, leq4, lle4, lge4, llt4, lgt4, lmu4, lmv4, lad4, lsu4, ldi4, leq5, lle5, lge5, llt5, lgt5, lmu5, lmv5, lad5, lsu5, ldi5, leq6, lle6, lge6, llt6, lgt6, lmu6, lmv6, lad6, lsu6, ldi6, leq8, lle8, lge8, llt8, lgt8, lmu8, lmv8, lad8, lsu8, ldi8, leq9, lle9, lge9, llt9, lgt9, lmu9, lmv9, lad9, lsu9, ldi9, leq10, lle10, lge10, llt10, lgt10, lmu10, lmv10, lad10, lsu10, ldi10, leq12, lle12, lge12, llt12, lgt12, lmu12, lmv12, lad12, lsu12, ldi12, leq20, lle20, lge20, llt20, lgt20, lmu20, lmv20, lad20, lsu20, ldi20, leq25, lle25, lge25, llt25, lgt25, lmu25, lmv25, lad25, lsu25, ldi25, leq30, lle30, lge30, llt30, lgt30, lmu30, lmv30, lad30, lsu30, ldi30, leq48, lle48, lge48, llt48, lgt48, lmu48, lmv48, lad48, lsu48, ldi48, leq50, lle50, lge50, llt50, lgt50, lmu50, lmv50, lad50, lsu50, ldi50, leq99, lle99, lge99, llt99, lgt99, lmu99, lmv99, lad99, lsu99, ldi99, leq100, lle100, lge100, llt100, lgt100, lmu100, lmv100, lad100, lsu100, ldi100, leq2000, lle2000, lge2000, llt2000, lgt2000, lmu2000, lmv2000, lad2000, lsu2000, ldi2000, h.s 3, xle, hlt]
    rw [e116_82]
    refine ⟨⟨show (1 : Nat) + 0 ≤ 8 from by decide, h.is⟩, sp_dries h hI hN (by omega) (fun ah' h' => ?_)⟩
    have e3 : dry1 σ s 3 0 = σ 3 0 := dry1_r (by decide)
    have e0 : dry1 σ s 0 0 = σ 0 0 := dry1_r (by decide)
    have st := ih (s + 1) (c + dryv σ s) (dry1 σ s) ah' (by rw [e3]; omega) h' (MI_dry1 hI hN (by omega)) (NIc_dry1 hN) (fun ah'' h1 h2 h3 h4 => by
      have := hX ah'' h1 h2 h3 (h4.trans e0)
      have en : c + drn (n + 1) s σ = c + dryv σ s + drn n (s + 1) (dry1 σ s) := by
        show c + (dryv σ s + drn n (s + 1) (dry1 σ s)) = _
        omega
      rw [en] at this
      rw [e3]
      exact this)
    have hv := dryv_le (σ := σ) s
    by_cases hv0 : dryv σ s = 0
    · rw [hv0, Nat.add_zero] at st
      rw [hv0]
      simp (disch := omega) only [e116_85, e116_88, e116_89, e116_92, e116_93, e116_94, e116_95, e116_98, xKv, xK0, xKx, xKHv, xKH0, xk_none, xk_i, xk_f, xk_l, xk_r, xk_n, xc_i, xc_f, xc_l, xc_d, xc_r, xc_n, xo_some, List.map_cons, List.map_nil, List.sum_cons, List.sum_nil, xnzn, xpn0, xpn1, xpnb, xpnn, i10, i00, true_imp_iff, false_imp_iff, not_true_eq_false, not_false_eq_true, true_and, and_true, implies_true, xnz0, xnz1, xnzb, xfz0, xfz1, xfzb, Option.isSome_some, if_true, if_false, xbF, xbT, and_false, false_and, Nat.zero_le, Nat.reduceEqDiff, Nat.reduceLeDiff, Nat.reduceAdd, Nat.reduceSub, xiT, xiF, pk_mul, nI_add, Nat.add_sub_cancel, lad0, leq0, lle0, lge0, llt0, lgt0, leq1, lle1, lge1, llt1, lgt1, lad1, lsu1, leq2, lle2, lge2, llt2, lgt2, lmu2, lmv2, lad2, lsu2, ldi2, leq3, lle3, lge3, llt3, lgt3, lmu3, lmv3, lad3, lsu3, ldi3, leq4, lle4, lge4, llt4, lgt4, lmu4, lmv4, lad4, lsu4, ldi4, leq5, lle5, lge5, llt5, lgt5, lmu5, lmv5, lad5, lsu5, ldi5, leq6, lle6, lge6, llt6, lgt6, lmu6, lmv6, lad6, lsu6, ldi6, leq8, lle8, lge8, llt8, lgt8, lmu8, lmv8, lad8, lsu8, ldi8, leq9, lle9, lge9, llt9, lgt9, lmu9, lmv9, lad9, lsu9, ldi9, leq10, lle10, lge10, llt10, lgt10, lmu10, lmv10, lad10, lsu10, ldi10, leq12, lle12, lge12, llt12, lgt12, lmu12, lmv12, lad12, lsu12, ldi12, leq20, lle20, lge20, llt20, lgt20, lmu20, lmv20, lad20, lsu20, ldi20, leq25, lle25, lge25, llt25, lgt25, lmu25, lmv25, lad25, lsu25, ldi25, leq30, lle30, lge30, llt30, lgt30, lmu30, lmv30, lad30, lsu30, ldi30, leq48, lle48, lge48, llt48, lgt48, lmu48, lmv48, lad48, lsu48, ldi48, leq50, lle50, lge50, llt50, lgt50, lmu50, lmv50, lad50, lsu50, ldi50, leq99, lle99, lge99, llt99, lgt99, lmu99, lmv99, lad99, lsu99, ldi99, leq100, lle100, lge100, llt100, lgt100, lmu100, lmv100, lad100, lsu100, ldi100, leq2000, lle2000, lge2000, llt2000, lgt2000, lmu2000, lmv2000, lad2000, lsu2000, ldi2000, eqNT]
      exact st
    · have hv1 : dryv σ s = 1 := by omega
      rw [hv1] at st ⊢
      simp (disch := omega) only [e116_85, e116_88, e116_89, e116_92, e116_93, e116_94, e116_95, e116_98, xKv, xK0, xKx, xKHv, xKH0, xk_none, xk_i, xk_f, xk_l, xk_r, xk_n, xc_i, xc_f, xc_l, xc_d, xc_r, xc_n, xo_some, List.map_cons, List.map_nil, List.sum_cons, List.sum_nil, xnzn, xpn0, xpn1, xpnb, xpnn, i10, i00, true_imp_iff, false_imp_iff, not_true_eq_false, not_false_eq_true, true_and, and_true, implies_true, xnz0, xnz1, xnzb, xfz0, xfz1, xfzb, Option.isSome_some, if_true, if_false, xbF, xbT, and_false, false_and, Nat.zero_le, Nat.reduceEqDiff, Nat.reduceLeDiff, Nat.reduceAdd, Nat.reduceSub, xiT, xiF, pk_mul, nI_add, Nat.add_sub_cancel, lad0, leq0, lle0, lge0, llt0, lgt0, leq1, lle1, lge1, llt1, lgt1, lad1, lsu1, leq2, lle2, lge2, llt2, lgt2, lmu2, lmv2, lad2, lsu2, ldi2, leq3, lle3, lge3, llt3, lgt3, lmu3, lmv3, lad3, lsu3, ldi3, leq4, lle4, lge4, llt4, lgt4, lmu4, lmv4, lad4, lsu4, ldi4, leq5, lle5, lge5, llt5, lgt5, lmu5, lmv5, lad5, lsu5, ldi5, leq6, lle6, lge6, llt6, lgt6, lmu6, lmv6, lad6, lsu6, ldi6, leq8, lle8, lge8, llt8, lgt8, lmu8, lmv8, lad8, lsu8, ldi8, leq9, lle9, lge9, llt9, lgt9, lmu9, lmv9, lad9, lsu9, ldi9, leq10, lle10, lge10, llt10, lgt10, lmu10, lmv10, lad10, lsu10, ldi10, leq12, lle12, lge12, llt12, lgt12, lmu12, lmv12, lad12, lsu12, ldi12, leq20, lle20, lge20, llt20, lgt20, lmu20, lmv20, lad20, lsu20, ldi20, leq25, lle25, lge25, llt25, lgt25, lmu25, lmv25, lad25, lsu25, ldi25, leq30, lle30, lge30, llt30, lgt30, lmu30, lmv30, lad30, lsu30, ldi30, leq48, lle48, lge48, llt48, lgt48, lmu48, lmv48, lad48, lsu48, ldi48, leq50, lle50, lge50, llt50, lgt50, lmu50, lmv50, lad50, lsu50, ldi50, leq99, lle99, lge99, llt99, lgt99, lmu99, lmv99, lad99, lsu99, ldi99, leq100, lle100, lge100, llt100, lgt100, lmu100, lmv100, lad100, lsu100, ldi100, leq2000, lle2000, lge2000, llt2000, lgt2000, lmu2000, lmv2000, lad2000, lsu2000, ldi2000, eqNF]
      exact st
theorem lp_days {D : Nat} {i2 : Int32} (hD : D ≤ 100) : ∀ (n k c : Nat) (l5 : Option Value) (σ : xS) (ah : xH), k + n = D → σ 0 0 + n ≤ 2000 → MR ad m ah0 ah σ th → MI σ → NIc σ →
    (∀ ah', MR ad m ah0 ah' (pasd n σ) th → MI (pasd n σ) → NIc (pasd n σ) → R (.inl (some (.int (nI (c + pasv n σ))))) ah') →
    xW (T116 κ) (xm κ) R (47, [some (.ref m), some (.int (nI D)), some (.int i2), some (.int (nI c)), some (.int (nI k)), l5], [], ah, 0, 0) := by
  intro n
  induction n with
  | zero =>
    intro k c l5 σ ah hk h2 h hI hN hX
    have hk' : k = D := by omega
    subst hk'
    rw [e116_47]
    simp (disch := omega) only [e116_49, e116_50, e116_53, e116_53n, e116_54, e116_54i, e116_55, e116_58, e116_59, e116_60, e116_63, e116_64, e116_68, e116_70, e116_70n, e116_71, e116_74, e116_75, e116_78, e116_79, e116_79n, e116_80, e116_82, e116_85, e116_88, e116_89, e116_92, e116_93, e116_94, e116_95, e116_98, e116_101, e116_104, e116_107, e116_108, xKv, xK0, xKx, xKHv, xKH0, xk_none, xk_i, xk_f, xk_l, xk_r, xk_n, xc_i, xc_f, xc_l, xc_d, xc_r, xc_n, xo_some, List.map_cons, List.map_nil, List.sum_cons, List.sum_nil, xnzn, xpn0, xpn1, xpnb, xpnn, i10, i00, true_imp_iff, false_imp_iff, not_true_eq_false, not_false_eq_true, true_and, and_true, implies_true, xnz0, xnz1, xnzb, xfz0, xfz1, xfzb, Option.isSome_some, if_true, if_false, xbF, xbT, and_false, false_and, Nat.zero_le, Nat.reduceEqDiff, Nat.reduceLeDiff, Nat.reduceAdd, Nat.reduceSub, xiT, xiF, pk_mul, nI_add, Nat.add_sub_cancel, lad0, leq0, lle0, lge0, llt0, lgt0, leq1, lle1, lge1, llt1, lgt1, lad1, lsu1, leq2, lle2, lge2, llt2, lgt2, lmu2, lmv2, lad2, lsu2, ldi2, leq3, lle3, lge3, llt3, lgt3, lmu3, lmv3, lad3, lsu3, ldi3, leq4, lle4, lge4, llt4, lgt4, lmu4, lmv4, lad4, lsu4, ldi4, leq5, lle5, lge5, llt5, lgt5, lmu5, lmv5, lad5, lsu5, ldi5, leq6, lle6, lge6, llt6, lgt6, lmu6, lmv6, lad6, lsu6, ldi6, leq8, lle8, lge8, llt8, lgt8, lmu8, lmv8, lad8, lsu8, ldi8, leq9, lle9, lge9, llt9, lgt9, lmu9, lmv9, lad9, lsu9, ldi9, leq10, lle10, lge10, llt10, lgt10, lmu10, lmv10, lad10, lsu10, ldi10, leq12, lle12, lge12, llt12, lgt12, lmu12, lmv12, lad12, lsu12, ldi12, leq20, lle20, lge20, llt20, lgt20, lmu20, lmv20, lad20, lsu20, ldi20, leq25, lle25, lge25, llt25, lgt25, lmu25, lmv25, lad25, lsu25, ldi25, leq30, lle30, lge30, llt30, lgt30, lmu30, lmv30, lad30, lsu30, ldi30, leq48, lle48, lge48, llt48, lgt48, lmu48, lmv48, lad48, lsu48, ldi48, leq50, lle50, lge50, llt50, lgt50, lmu50, lmv50, lad50, lsu50, ldi50, leq99, lle99, lge99, llt99, lgt99, lmu99, lmv99, lad99, lsu99, ldi99, leq100, lle100, lge100, llt100, lgt100, lmu100, lmv100, lad100, lsu100, ldi100, leq2000, lle2000, lge2000, llt2000, lgt2000, lmu2000, lmv2000, lad2000, lsu2000, ldi2000, xle, Nat.le_refl]
    exact hX ah h hI hN
  | succ n ih =>
    intro k c l5 σ ah hk h2 h hI hN hX
    have hlt : ¬ D ≤ k := by omega
    have g1 := h.ws 0 (σ 0 0 + 1) (by decide) rfl
    have e3 : su σ 0 0 (σ 0 0 + 1) 3 0 = σ 3 0 := su_ne (by omega)
    rw [e116_47]
    simp (disch := omega) only [e116_49, e116_50, e116_53, e116_53n, e116_54, e116_54i, e116_55, e116_58, e116_59, e116_60, e116_63, e116_64, xKv, xK0, xKx, xKHv, xKH0, xk_none, xk_i, xk_f, xk_l, xk_r, xk_n, xc_i, xc_f, xc_l, xc_d, xc_r, xc_n, xo_some, List.map_cons, List.map_nil, List.sum_cons, List.sum_nil, xnzn, xpn0, xpn1, xpnb, xpnn, i10, i00, true_imp_iff, false_imp_iff, not_true_eq_false, not_false_eq_true, true_and, and_true, implies_true, xnz0, xnz1, xnzb, xfz0, xfz1, xfzb, Option.isSome_some, if_true, if_false, xbF, xbT, and_false, false_and, Nat.zero_le, Nat.reduceEqDiff, Nat.reduceLeDiff, Nat.reduceAdd, Nat.reduceSub, xiT, xiF, pk_mul, nI_add, Nat.add_sub_cancel, lad0, leq0, lle0, lge0, llt0, lgt0, leq1, lle1, lge1, llt1, lgt1, lad1, lsu1, leq2, lle2, lge2, llt2, lgt2, lmu2, lmv2, lad2, lsu2, ldi2, leq3, lle3, lge3, llt3, lgt3, lmu3, lmv3, lad3, lsu3, ldi3, leq4, lle4, lge4, llt4, lgt4, lmu4, lmv4, lad4, lsu4, ldi4, leq5, lle5, lge5, llt5, lgt5, lmu5, lmv5, lad5, lsu5, ldi5, leq6, lle6, lge6, llt6, lgt6, lmu6, lmv6, lad6, lsu6, ldi6, leq8, lle8, lge8, llt8, lgt8, lmu8, lmv8, lad8, lsu8, ldi8, leq9, lle9, lge9, llt9, lgt9, lmu9, lmv9, lad9, lsu9, ldi9, leq10, lle10, lge10, llt10, lgt10, lmu10, lmv10, lad10, lsu10, ldi10, leq12, lle12, lge12, llt12, lgt12, lmu12, lmv12, lad12, lsu12, ldi12, leq20, lle20, lge20, llt20, lgt20, lmu20, lmv20, lad20, lsu20, ldi20, leq25, lle25, lge25, llt25, lgt25, lmu25, lmv25, lad25, lsu25, ldi25, leq30, lle30, lge30, llt30, lgt30, lmu30, lmv30, lad30, lsu30, ldi30, leq48, lle48, lge48, llt48, lgt48, lmu48, lmv48, lad48, lsu48, ldi48, leq50, lle50, lge50, llt50, lgt50, lmu50, lmv50, lad50, lsu50, ldi50, leq99, lle99, lge99, llt99, lgt99, lmu99, lmv99, lad99, lsu99, ldi99, leq100, lle100, lge100, llt100, lgt100, lmu100, lmv100, lad100, lsu100, ldi100, leq2000, lle2000, lge2000, llt2000, lgt2000, lmu2000, lmv2000, lad2000, lsu2000, ldi2000, h.s 0, xle, hlt]
    refine lp_strips (12 * σ 3 0) 0 c (su σ 0 0 (σ 0 0 + 1)) _ (by rw [e3]; omega) g1 (MI_day hI (by omega)) (NIc_day hN) (fun ah' h1 hI1 hN1 e0 => ?_)
    have st := fun l5 => ih (k + 1) (c + drn (12 * σ 3 0) 0 (su σ 0 0 (σ 0 0 + 1))) l5 _ ah' (by omega) (by rw [e0, su_eq]; omega) h1 hI1 hN1 (fun ah'' q1 q2 q3 => by
      have := hX ah'' q1 q2 q3
      have en : c + pasv (n + 1) σ = c + drn (12 * σ 3 0) 0 (su σ 0 0 (σ 0 0 + 1)) + pasv n (fo dry1 (12 * σ 3 0) 0 (su σ 0 0 (σ 0 0 + 1))) := by
        show c + (drn (12 * σ 3 0) 0 (su σ 0 0 (σ 0 0 + 1)) + pasv n (fo dry1 (12 * σ 3 0) 0 (su σ 0 0 (σ 0 0 + 1)))) = _
        omega
      rw [en] at this
      exact this)
    simp (disch := omega) only [e116_101, e116_104, xKv, xK0, xKx, xKHv, xKH0, xk_none, xk_i, xk_f, xk_l, xk_r, xk_n, xc_i, xc_f, xc_l, xc_d, xc_r, xc_n, xo_some, List.map_cons, List.map_nil, List.sum_cons, List.sum_nil, xnzn, xpn0, xpn1, xpnb, xpnn, i10, i00, true_imp_iff, false_imp_iff, not_true_eq_false, not_false_eq_true, true_and, and_true, implies_true, xnz0, xnz1, xnzb, xfz0, xfz1, xfzb, Option.isSome_some, if_true, if_false, xbF, xbT, and_false, false_and, Nat.zero_le, Nat.reduceEqDiff, Nat.reduceLeDiff, Nat.reduceAdd, Nat.reduceSub, xiT, xiF, pk_mul, nI_add, Nat.add_sub_cancel, lad0, leq0, lle0, lge0, llt0, lgt0, leq1, lle1, lge1, llt1, lgt1, lad1, lsu1, leq2, lle2, lge2, llt2, lgt2, lmu2, lmv2, lad2, lsu2, ldi2, leq3, lle3, lge3, llt3, lgt3, lmu3, lmv3, lad3, lsu3, ldi3, leq4, lle4, lge4, llt4, lgt4, lmu4, lmv4, lad4, lsu4, ldi4, leq5, lle5, lge5, llt5, lgt5, lmu5, lmv5, lad5, lsu5, ldi5, leq6, lle6, lge6, llt6, lgt6, lmu6, lmv6, lad6, lsu6, ldi6, leq8, lle8, lge8, llt8, lgt8, lmu8, lmv8, lad8, lsu8, ldi8, leq9, lle9, lge9, llt9, lgt9, lmu9, lmv9, lad9, lsu9, ldi9, leq10, lle10, lge10, llt10, lgt10, lmu10, lmv10, lad10, lsu10, ldi10, leq12, lle12, lge12, llt12, lgt12, lmu12, lmv12, lad12, lsu12, ldi12, leq20, lle20, lge20, llt20, lgt20, lmu20, lmv20, lad20, lsu20, ldi20, leq25, lle25, lge25, llt25, lgt25, lmu25, lmv25, lad25, lsu25, ldi25, leq30, lle30, lge30, llt30, lgt30, lmu30, lmv30, lad30, lsu30, ldi30, leq48, lle48, lge48, llt48, lgt48, lmu48, lmv48, lad48, lsu48, ldi48, leq50, lle50, lge50, llt50, lgt50, lmu50, lmv50, lad50, lsu50, ldi50, leq99, lle99, lge99, llt99, lgt99, lmu99, lmv99, lad99, lsu99, ldi99, leq100, lle100, lge100, llt100, lgt100, lmu100, lmv100, lad100, lsu100, ldi100, leq2000, lle2000, lge2000, llt2000, lgt2000, lmu2000, lmv2000, lad2000, lsu2000, ldi2000]
    exact st _
theorem sp_m_pass (h : MR ad m ah0 ah σ th) (hI : MI σ) (hN : NIc σ) {d : Int32} (hR : ∀ ah', MR ad m ah0 ah' (s_pass σ d) (t_pass σ d) → MI (s_pass σ d) → NIc (s_pass σ d) → R (.inl (some (.int (v_pass σ d)))) ah') : xm κ 116 [.ref m, .int d] ah R := by
  have h0 := hI.wt2
  by_cases ha : xrg d 1 100
  · obtain ⟨j, hj, hj2, rfl⟩ := xrg_of (by decide) ha
    by_cases hb : σ 0 0 + j ≤ 2000
    · have g0 := h.wt 0 (x := 0) rfl
      simp (disch := omega) only [t_pass, s_pass, v_pass, ha, hb, xKv, xK0, xKx, xKHv, xKH0, xk_none, xk_i, xk_f, xk_l, xk_r, xk_n, xc_i, xc_f, xc_l, xc_d, xc_r, xc_n, xo_some, List.map_cons, List.map_nil, List.sum_cons, List.sum_nil, xnzn, xpn0, xpn1, xpnb, xpnn, i10, i00, true_imp_iff, false_imp_iff, not_true_eq_false, not_false_eq_true, true_and, and_true, implies_true, xnz0, xnz1, xnzb, xfz0, xfz1, xfzb, Option.isSome_some, if_true, if_false, xbF, xbT, and_false, false_and, Nat.zero_le, Nat.reduceEqDiff, Nat.reduceLeDiff, Nat.reduceAdd, Nat.reduceSub, xiT, xiF, i20, i30, n20, n30, n10, n00, k20, k10, k00, k30, nI_cl] at hR
      simp (disch := omega) only [e116_0, e116_1, e116_2, e116_4, e116_7, e116_8, e116_8n, e116_9, e116_10, e116_13, e116_14, e116_17, e116_17n, e116_18, e116_21, e116_22, e116_23, e116_26, e116_29, e116_30, e116_33, e116_34, e116_37, e116_40, e116_41, e116_42, e116_43, e116_44, e116_45, en116, xKv, xK0, xKx, xKHv, xKH0, xk_none, xk_i, xk_f, xk_l, xk_r, xk_n, xc_i, xc_f, xc_l, xc_d, xc_r, xc_n, xo_some, List.map_cons, List.map_nil, List.sum_cons, List.sum_nil, xnzn, xpn0, xpn1, xpnb, xpnn, i10, i00, true_imp_iff, false_imp_iff, not_true_eq_false, not_false_eq_true, true_and, and_true, implies_true, xnz0, xnz1, xnzb, xfz0, xfz1, xfzb, Option.isSome_some, if_true, if_false, xbF, xbT, and_false, false_and, Nat.zero_le, Nat.reduceEqDiff, Nat.reduceLeDiff, Nat.reduceAdd, Nat.reduceSub, xiT, xiF, pk_mul, nI_add, Nat.add_sub_cancel, lad0, leq0, lle0, lge0, llt0, lgt0, leq1, lle1, lge1, llt1, lgt1, lad1, lsu1, leq2, lle2, lge2, llt2, lgt2, lmu2, lmv2, lad2, lsu2, ldi2, leq3, lle3, lge3, llt3, lgt3, lmu3, lmv3, lad3, lsu3, ldi3, leq4, lle4, lge4, llt4, lgt4, lmu4, lmv4, lad4, lsu4, ldi4, leq5, lle5, lge5, llt5, lgt5, lmu5, lmv5, lad5, lsu5, ldi5, leq6, lle6, lge6, llt6, lgt6, lmu6, lmv6, lad6, lsu6, ldi6, leq8, lle8, lge8, llt8, lgt8, lmu8, lmv8, lad8, lsu8, ldi8, leq9, lle9, lge9, llt9, lgt9, lmu9, lmv9, lad9, lsu9, ldi9, leq10, lle10, lge10, llt10, lgt10, lmu10, lmv10, lad10, lsu10, ldi10, leq12, lle12, lge12, llt12, lgt12, lmu12, lmv12, lad12, lsu12, ldi12, leq20, lle20, lge20, llt20, lgt20, lmu20, lmv20, lad20, lsu20, ldi20, leq25, lle25, lge25, llt25, lgt25, lmu25, lmv25, lad25, lsu25, ldi25, leq30, lle30, lge30, llt30, lgt30, lmu30, lmv30, lad30, lsu30, ldi30, leq48, lle48, lge48, llt48, lgt48, lmu48, lmv48, lad48, lsu48, ldi48, leq50, lle50, lge50, llt50, lgt50, lmu50, lmv50, lad50, lsu50, ldi50, leq99, lle99, lge99, llt99, lgt99, lmu99, lmv99, lad99, lsu99, ldi99, leq100, lle100, lge100, llt100, lgt100, lmu100, lmv100, lad100, lsu100, ldi100, leq2000, lle2000, lge2000, llt2000, lgt2000, lmu2000, lmv2000, lad2000, lsu2000, ldi2000, sb_0_9, sb_0_99, sb_1_100000, sb_1_12, sb_0_2, sb_0_50, sb_0_20, sb_0_30, sb_0_3, sb_1_20, sb_1_100, sb_0_5, sb_2000_100000, sb_1_1000, sb_0_47, ha, hb, h.is, h.s 0, sp_goes h.t, i20, i30, n20, n30, n10, n00, k20, k10, k00, k30]
      refine lp_days hj2 j 0 0 none σ _ (by omega) hb g0 hI hN (fun ah' h1 h2 h3 => ?_)
      rw [Nat.zero_add]
      exact hR ah' h1 h2 h3
    · have g := h.wt 2 (x := 2) rfl
      simp (disch := omega) only [t_pass, s_pass, v_pass, ha, hb, xKv, xK0, xKx, xKHv, xKH0, xk_none, xk_i, xk_f, xk_l, xk_r, xk_n, xc_i, xc_f, xc_l, xc_d, xc_r, xc_n, xo_some, List.map_cons, List.map_nil, List.sum_cons, List.sum_nil, xnzn, xpn0, xpn1, xpnb, xpnn, i10, i00, true_imp_iff, false_imp_iff, not_true_eq_false, not_false_eq_true, true_and, and_true, implies_true, xnz0, xnz1, xnzb, xfz0, xfz1, xfzb, Option.isSome_some, if_true, if_false, xbF, xbT, and_false, false_and, Nat.zero_le, Nat.reduceEqDiff, Nat.reduceLeDiff, Nat.reduceAdd, Nat.reduceSub, xiT, xiF, i20, i30, n20, n30, n10, n00, k20, k10, k00, k30, nI_cl] at hR
      simp (disch := omega) only [e116_0, e116_1, e116_2, e116_4, e116_7, e116_8, e116_8n, e116_9, e116_10, e116_13, e116_14, e116_17, e116_17n, e116_18, e116_21, e116_22, e116_23, e116_26, e116_29, e116_30, e116_33, e116_34, e116_37, e116_40, e116_41, e116_42, e116_43, e116_44, e116_45, en116, xKv, xK0, xKx, xKHv, xKH0, xk_none, xk_i, xk_f, xk_l, xk_r, xk_n, xc_i, xc_f, xc_l, xc_d, xc_r, xc_n, xo_some, List.map_cons, List.map_nil, List.sum_cons, List.sum_nil, xnzn, xpn0, xpn1, xpnb, xpnn, i10, i00, true_imp_iff, false_imp_iff, not_true_eq_false, not_false_eq_true, true_and, and_true, implies_true, xnz0, xnz1, xnzb, xfz0, xfz1, xfzb, Option.isSome_some, if_true, if_false, xbF, xbT, and_false, false_and, Nat.zero_le, Nat.reduceEqDiff, Nat.reduceLeDiff, Nat.reduceAdd, Nat.reduceSub, xiT, xiF, pk_mul, nI_add, Nat.add_sub_cancel, lad0, leq0, lle0, lge0, llt0, lgt0, leq1, lle1, lge1, llt1, lgt1, lad1, lsu1, leq2, lle2, lge2, llt2, lgt2, lmu2, lmv2, lad2, lsu2, ldi2, leq3, lle3, lge3, llt3, lgt3, lmu3, lmv3, lad3, lsu3, ldi3, leq4, lle4, lge4, llt4, lgt4, lmu4, lmv4, lad4, lsu4, ldi4, leq5, lle5, lge5, llt5, lgt5, lmu5, lmv5, lad5, lsu5, ldi5, leq6, lle6, lge6, llt6, lgt6, lmu6, lmv6, lad6, lsu6, ldi6, leq8, lle8, lge8, llt8, lgt8, lmu8, lmv8, lad8, lsu8, ldi8, leq9, lle9, lge9, llt9, lgt9, lmu9, lmv9, lad9, lsu9, ldi9, leq10, lle10, lge10, llt10, lgt10, lmu10, lmv10, lad10, lsu10, ldi10, leq12, lle12, lge12, llt12, lgt12, lmu12, lmv12, lad12, lsu12, ldi12, leq20, lle20, lge20, llt20, lgt20, lmu20, lmv20, lad20, lsu20, ldi20, leq25, lle25, lge25, llt25, lgt25, lmu25, lmv25, lad25, lsu25, ldi25, leq30, lle30, lge30, llt30, lgt30, lmu30, lmv30, lad30, lsu30, ldi30, leq48, lle48, lge48, llt48, lgt48, lmu48, lmv48, lad48, lsu48, ldi48, leq50, lle50, lge50, llt50, lgt50, lmu50, lmv50, lad50, lsu50, ldi50, leq99, lle99, lge99, llt99, lgt99, lmu99, lmv99, lad99, lsu99, ldi99, leq100, lle100, lge100, llt100, lgt100, lmu100, lmv100, lad100, lsu100, ldi100, leq2000, lle2000, lge2000, llt2000, lgt2000, lmu2000, lmv2000, lad2000, lsu2000, ldi2000, sb_0_9, sb_0_99, sb_1_100000, sb_1_12, sb_0_2, sb_0_50, sb_0_20, sb_0_30, sb_0_3, sb_1_20, sb_1_100, sb_0_5, sb_2000_100000, sb_1_1000, sb_0_47, ha, hb, h.is, h.s 0, sp_goes h.t, i20, i30, n20, n30, n10, n00, k20, k10, k00, k30]
      exact hR _ g hI hN
  · have g := h.wt 1 (x := 1) rfl
    simp (disch := omega) only [t_pass, s_pass, v_pass, ha, xKv, xK0, xKx, xKHv, xKH0, xk_none, xk_i, xk_f, xk_l, xk_r, xk_n, xc_i, xc_f, xc_l, xc_d, xc_r, xc_n, xo_some, List.map_cons, List.map_nil, List.sum_cons, List.sum_nil, xnzn, xpn0, xpn1, xpnb, xpnn, i10, i00, true_imp_iff, false_imp_iff, not_true_eq_false, not_false_eq_true, true_and, and_true, implies_true, xnz0, xnz1, xnzb, xfz0, xfz1, xfzb, Option.isSome_some, if_true, if_false, xbF, xbT, and_false, false_and, Nat.zero_le, Nat.reduceEqDiff, Nat.reduceLeDiff, Nat.reduceAdd, Nat.reduceSub, xiT, xiF, i20, i30, n20, n30, n10, n00, k20, k10, k00, k30, nI_cl] at hR
    simp (disch := omega) only [e116_0, e116_1, e116_2, e116_4, e116_7, e116_8, e116_8n, e116_9, e116_10, e116_13, e116_14, e116_17, e116_17n, e116_18, e116_21, e116_22, e116_23, e116_26, e116_29, e116_30, e116_33, e116_34, e116_37, e116_40, e116_41, e116_42, e116_43, e116_44, e116_45, en116, xKv, xK0, xKx, xKHv, xKH0, xk_none, xk_i, xk_f, xk_l, xk_r, xk_n, xc_i, xc_f, xc_l, xc_d, xc_r, xc_n, xo_some, List.map_cons, List.map_nil, List.sum_cons, List.sum_nil, xnzn, xpn0, xpn1, xpnb, xpnn, i10, i00, true_imp_iff, false_imp_iff, not_true_eq_false, not_false_eq_true, true_and, and_true, implies_true, xnz0, xnz1, xnzb, xfz0, xfz1, xfzb, Option.isSome_some, if_true, if_false, xbF, xbT, and_false, false_and, Nat.zero_le, Nat.reduceEqDiff, Nat.reduceLeDiff, Nat.reduceAdd, Nat.reduceSub, xiT, xiF, pk_mul, nI_add, Nat.add_sub_cancel, lad0, leq0, lle0, lge0, llt0, lgt0, leq1, lle1, lge1, llt1, lgt1, lad1, lsu1, leq2, lle2, lge2, llt2, lgt2, lmu2, lmv2, lad2, lsu2, ldi2, leq3, lle3, lge3, llt3, lgt3, lmu3, lmv3, lad3, lsu3, ldi3, leq4, lle4, lge4, llt4, lgt4, lmu4, lmv4, lad4, lsu4, ldi4, leq5, lle5, lge5, llt5, lgt5, lmu5, lmv5, lad5, lsu5, ldi5, leq6, lle6, lge6, llt6, lgt6, lmu6, lmv6, lad6, lsu6, ldi6, leq8, lle8, lge8, llt8, lgt8, lmu8, lmv8, lad8, lsu8, ldi8, leq9, lle9, lge9, llt9, lgt9, lmu9, lmv9, lad9, lsu9, ldi9, leq10, lle10, lge10, llt10, lgt10, lmu10, lmv10, lad10, lsu10, ldi10, leq12, lle12, lge12, llt12, lgt12, lmu12, lmv12, lad12, lsu12, ldi12, leq20, lle20, lge20, llt20, lgt20, lmu20, lmv20, lad20, lsu20, ldi20, leq25, lle25, lge25, llt25, lgt25, lmu25, lmv25, lad25, lsu25, ldi25, leq30, lle30, lge30, llt30, lgt30, lmu30, lmv30, lad30, lsu30, ldi30, leq48, lle48, lge48, llt48, lgt48, lmu48, lmv48, lad48, lsu48, ldi48, leq50, lle50, lge50, llt50, lgt50, lmu50, lmv50, lad50, lsu50, ldi50, leq99, lle99, lge99, llt99, lgt99, lmu99, lmv99, lad99, lsu99, ldi99, leq100, lle100, lge100, llt100, lgt100, lmu100, lmv100, lad100, lsu100, ldi100, leq2000, lle2000, lge2000, llt2000, lgt2000, lmu2000, lmv2000, lad2000, lsu2000, ldi2000, sb_0_9, sb_0_99, sb_1_100000, sb_1_12, sb_0_2, sb_0_50, sb_0_20, sb_0_30, sb_0_3, sb_1_20, sb_1_100, sb_0_5, sb_2000_100000, sb_1_1000, sb_0_47, ha, h.is, sp_goes h.t, i20, i30, n20, n30, n10, n00, k20, k10, k00, k30]
    exact hR _ g hI hN
end
