/-! a coat is laid -/
theorem MI_lay {σ : xS} (hI : MI σ) {w s p k : Nat} (hw : w < σ 3 0) (hs : s < σ 4 w) (hp : p < 4) (hk : k ≤ 20) (h6 : ¬ σ 8 (12 * w + s) = 6) : MI (lay w p k σ s) := by
  have hW := hI.W
  have h4 := hI.w4 (w := w) (by omega)
  have b8 := hI.w8 (a := 12 * w + s) (by omega)
  have hd := hI.wt2
  have hcr : crk σ w (12 * w + s) p k ≤ 1 := by unfold crk; split <;> omega
  have hl : ∀ c i, lay w p k σ s c i = if c = 14 ∧ i = 6 * (12 * w + s) + σ 8 (12 * w + s) then crk σ w (12 * w + s) p k else if c = 15 ∧ i = 6 * (12 * w + s) + σ 8 (12 * w + s) then 0 else if c = 13 ∧ i = 6 * (12 * w + s) + σ 8 (12 * w + s) then 0 else if c = 12 ∧ i = 6 * (12 * w + s) + σ 8 (12 * w + s) then 0 else if c = 11 ∧ i = 6 * (12 * w + s) + σ 8 (12 * w + s) then σ 0 0 else if c = 10 ∧ i = 6 * (12 * w + s) + σ 8 (12 * w + s) then k else if c = 9 ∧ i = 6 * (12 * w + s) + σ 8 (12 * w + s) then p else if c = 8 ∧ i = 12 * w + s then σ 8 (12 * w + s) + 1 else σ c i := fun c i => rfl
  have ho : ∀ c, c ≠ 8 → c ≠ 9 → c ≠ 10 → c ≠ 11 → c ≠ 12 → c ≠ 13 → c ≠ 14 → c ≠ 15 → ∀ i, lay w p k σ s c i = σ c i := by
    intro c h8 h9 h10 h11 h12 h13 h14 h15 i
    rw [hl, if_neg (fun q => h14 q.1), if_neg (fun q => h15 q.1), if_neg (fun q => h13 q.1), if_neg (fun q => h12 q.1), if_neg (fun q => h11 q.1), if_neg (fun q => h10 q.1), if_neg (fun q => h9 q.1), if_neg (fun q => h8 q.1)]
  obtain ⟨i0, i1, i2, i3, i4, i5, i6, i7, i8, i9, i10, i11, i12, i13, i14, i15, i16, i17⟩ := hI
  unfold MI
  simp only [ho 0 (by decide) (by decide) (by decide) (by decide) (by decide) (by decide) (by decide) (by decide), ho 1 (by decide) (by decide) (by decide) (by decide) (by decide) (by decide) (by decide) (by decide), ho 2 (by decide) (by decide) (by decide) (by decide) (by decide) (by decide) (by decide) (by decide), ho 3 (by decide) (by decide) (by decide) (by decide) (by decide) (by decide) (by decide) (by decide), ho 4 (by decide) (by decide) (by decide) (by decide) (by decide) (by decide) (by decide) (by decide), ho 5 (by decide) (by decide) (by decide) (by decide) (by decide) (by decide) (by decide) (by decide), ho 6 (by decide) (by decide) (by decide) (by decide) (by decide) (by decide) (by decide) (by decide), ho 7 (by decide) (by decide) (by decide) (by decide) (by decide) (by decide) (by decide) (by decide), ho 16 (by decide) (by decide) (by decide) (by decide) (by decide) (by decide) (by decide) (by decide), ho 17 (by decide) (by decide) (by decide) (by decide) (by decide) (by decide) (by decide) (by decide), ho 18 (by decide) (by decide) (by decide) (by decide) (by decide) (by decide) (by decide) (by decide), ho 19 (by decide) (by decide) (by decide) (by decide) (by decide) (by decide) (by decide) (by decide), ho 20 (by decide) (by decide) (by decide) (by decide) (by decide) (by decide) (by decide) (by decide), ho 21 (by decide) (by decide) (by decide) (by decide) (by decide) (by decide) (by decide) (by decide), ho 22 (by decide) (by decide) (by decide) (by decide) (by decide) (by decide) (by decide) (by decide), ho 23 (by decide) (by decide) (by decide) (by decide) (by decide) (by decide) (by decide) (by decide), ho 24 (by decide) (by decide) (by decide) (by decide) (by decide) (by decide) (by decide) (by decide)]
  refine ⟨i0, i1, i2, i3, i4, i5, fun a ha => ⟨(i6 a ha).1, ?_⟩, fun c hc => ?_, i8, i9, i10, i11, i12, i13, i14, i15, i16, fun w' s' hw' hs' hno => ?_⟩
  · have := (i6 a ha).2
    rw [hl]
    simp only [Nat.reduceEqDiff, false_and, if_false, true_and]
    split <;> omega
  · have := i7 c hc
    simp only [hl, Nat.reduceEqDiff, false_and, if_false, true_and]
    by_cases e : c = 6 * (12 * w + s) + σ 8 (12 * w + s)
    · simp only [e, if_true]
      omega
    · simp only [e, if_false]
      exact this
  · rw [hl]
    simp only [Nat.reduceEqDiff, false_and, if_false, true_and]
    have := i17 w' s' hw' hs' hno
    rw [if_neg ?_]
    · exact this
    · intro e
      have e1 : w' = w := by omega
      have e2 : s' = s := by omega
      subst e1 e2
      exact hno ⟨hw, hs⟩
/-- a change at each of the places i, .. i + n - 1, in order -/
def fo (F : xS → Nat → xS) : Nat → Nat → xS → xS
  | 0, _, σ => σ
  | n + 1, i, σ => fo F n (i + 1) (F σ i)
section
variable {κ : Nat → Nat} {R : xR → xH → Prop} {ad : Nat → Nat} {m : Nat} {ah0 ah : xH} {σ : xS} {th : Nat}
theorem lp_coat1 (h : MR ad m ah0 ah σ th) (hI : MI σ) {w t p : Nat} {f0 k0 : Value} {l1 l2 l3 : Option Value} (hw : w < 10) (ht : t < 12) (hp : p < 4) : ∀ (n s : Nat) (b : Prop), s + n = t + 1 →
    xW (T112 κ) (xm κ) R (110, [some (.ref m), some (.int (nI w)), some f0, some (.int (nI t)), some (.int (nI p)), some k0, some (.int 1), some (.int 1), some (.int (xb (b ∨ ∃ i, s ≤ i ∧ i ≤ t ∧ refd σ w i p))), some (.int (nI (t + 1))), l1, l2, l3], [], ah, 0, 0) →
    xW (T112 κ) (xm κ) R (64, [some (.ref m), some (.int (nI w)), some f0, some (.int (nI t)), some (.int (nI p)), some k0, some (.int 1), some (.int 1), some (.int (xb b)), some (.int (nI s)), l1, l2, l3], [], ah, 0, 0) := by
  intro n
  induction n with
  | zero =>
    intro s b hs hX
    have e : (b ∨ ∃ i, s ≤ i ∧ i ≤ t ∧ refd σ w i p) ↔ b := ⟨fun q => q.elim id (fun ⟨i, h1, h2, _⟩ => absurd h1 (by omega)), Or.inl⟩
    rw [xb_congr e] at hX
    have hs' : s = t + 1 := by omega
    subst hs'
    rw [e112_64]
    simp (disch := omega) only [e112_66, e112_67, e112_70, e112_72, e112_75, e112_77, e112_80, e112_82, e112_85, e112_85n, e112_86, e112_87, e112_89, e112_91, e112_94, e112_97, e112_98, e112_101, e112_102, e112_104, e112_107, xKv, xK0, xKx, xKHv, xKH0, xk_none, xk_i, xk_f, xk_l, xk_r, xk_n, xc_i, xc_f, xc_l, xc_d, xc_r, xc_n, xo_some, List.map_cons, List.map_nil, List.sum_cons, List.sum_nil, xnzn, xpn0, xpn1, xpnb, xpnn, i10, i00, true_imp_iff, false_imp_iff, not_true_eq_false, not_false_eq_true, true_and, and_true, implies_true, xnz0, xnz1, xnzb, xfz0, xfz1, xfzb, Option.isSome_some, if_true, if_false, xbF, xbT, and_false, false_and, Nat.zero_le, Nat.reduceEqDiff, Nat.reduceLeDiff, Nat.reduceAdd, Nat.reduceSub, xiT, xiF, pk_mul, nI_add, Nat.add_sub_cancel, lad0, leq0, lle0, lge0, llt0, lgt0, leq1, lle1, lge1, llt1, lgt1, lad1, lsu1, leq2, lle2, lge2, llt2, lgt2, lmu2, lmv2, lad2, lsu2, ldi2, leq3, lle3, lge3, llt3, lgt3, lmu3, lmv3, lad3, lsu3, ldi3, leq4, lle4, lge4, llt4, lgt4, lmu4, lmv4, lad4, lsu4, ldi4, leq5, lle5, lge5, llt5, lgt5, lmu5, lmv5, lad5, lsu5, ldi5, leq6, lle6, lge6, llt6, lgt6, lmu6, lmv6, lad6, lsu6, ldi6, leq8, lle8, lge8, llt8, lgt8, lmu8, lmv8, lad8, lsu8, ldi8, leq9, lle9, lge9, llt9, lgt9, lmu9, lmv9, lad9, lsu9, ldi9, leq10, lle10, lge10, llt10, lgt10, lmu10, lmv10, lad10, lsu10, ldi10, leq12, lle12, lge12, llt12, lgt12, lmu12, lmv12, lad12, lsu12, ldi12, leq20, lle20, lge20, llt20, lgt20, lmu20, lmv20, lad20, lsu20, ldi20, leq25, lle25, lge25, llt25, lgt25, lmu25, lmv25, lad25, lsu25, ldi25, leq30, lle30, lge30, llt30, lgt30, lmu30, lmv30, lad30, lsu30, ldi30, leq48, lle48, lge48, llt48, lgt48, lmu48, lmv48, lad48, lsu48, ldi48, leq50, lle50, lge50, llt50, lgt50, lmu50, lmv50, lad50, lsu50, ldi50, leq99, lle99, lge99, llt99, lgt99, lmu99, lmv99, lad99, lsu99, ldi99, leq100, lle100, lge100, llt100, lgt100, lmu100, lmv100, lad100, lsu100, ldi100, leq2000, lle2000, lge2000, llt2000, lgt2000, lmu2000, lmv2000, lad2000, lsu2000, ldi2000, xlt, Nat.lt_succ_self]
    exact hX
  | succ n ih =>
    intro s b hs hX
    have hlt : ¬ t < s := by omega
    have hst : s < 12 := by omega
    by_cases hb : b
    · have hX' := ih (s + 1) True (by omega) (by
        rw [xb_t (Or.inl trivial)]
        rw [xb_t (Or.inl hb)] at hX
        exact hX)
      simp only [xbT] at hX'
      rw [e112_64]
      simp (disch := omega) only [e112_66, e112_67, e112_70, e112_72, e112_75, e112_77, e112_80, e112_82, e112_85, e112_85n, e112_86, e112_87, e112_89, e112_91, e112_94, e112_97, e112_98, e112_101, e112_102, e112_104, e112_107, xKv, xK0, xKx, xKHv, xKH0, xk_none, xk_i, xk_f, xk_l, xk_r, xk_n, xc_i, xc_f, xc_l, xc_d, xc_r, xc_n, xo_some, List.map_cons, List.map_nil, List.sum_cons, List.sum_nil, xnzn, xpn0, xpn1, xpnb, xpnn, i10, i00, true_imp_iff, false_imp_iff, not_true_eq_false, not_false_eq_true, true_and, and_true, implies_true, xnz0, xnz1, xnzb, xfz0, xfz1, xfzb, Option.isSome_some, if_true, if_false, xbF, xbT, and_false, false_and, Nat.zero_le, Nat.reduceEqDiff, Nat.reduceLeDiff, Nat.reduceAdd, Nat.reduceSub, xiT, xiF, pk_mul, nI_add, Nat.add_sub_cancel, lad0, leq0, lle0, lge0, llt0, lgt0, leq1, lle1, lge1, llt1, lgt1, lad1, lsu1, leq2, lle2, lge2, llt2, lgt2, lmu2, lmv2, lad2, lsu2, ldi2, leq3, lle3, lge3, llt3, lgt3, lmu3, lmv3, lad3, lsu3, ldi3, leq4, lle4, lge4, llt4, lgt4, lmu4, lmv4, lad4, lsu4, ldi4, leq5, lle5, lge5, llt5, lgt5, lmu5, lmv5, lad5, lsu5, ldi5, leq6, lle6, lge6, llt6, lgt6, lmu6, lmv6, lad6, lsu6, ldi6, leq8, lle8, lge8, llt8, lgt8, lmu8, lmv8, lad8, lsu8, ldi8, leq9, lle9, lge9, llt9, lgt9, lmu9, lmv9, lad9, lsu9, ldi9, leq10, lle10, lge10, llt10, lgt10, lmu10, lmv10, lad10, lsu10, ldi10, leq12, lle12, lge12, llt12, lgt12, lmu12, lmv12, lad12, lsu12, ldi12, leq20, lle20, lge20, llt20, lgt20, lmu20, lmv20, lad20, lsu20, ldi20, leq25, lle25, lge25, llt25, lgt25, lmu25, lmv25, lad25, lsu25, ldi25, leq30, lle30, lge30, llt30, lgt30, lmu30, lmv30, lad30, lsu30, ldi30, leq48, lle48, lge48, llt48, lgt48, lmu48, lmv48, lad48, lsu48, ldi48, leq50, lle50, lge50, llt50, lgt50, lmu50, lmv50, lad50, lsu50, ldi50, leq99, lle99, lge99, llt99, lgt99, lmu99, lmv99, lad99, lsu99, ldi99, leq100, lle100, lge100, llt100, lgt100, lmu100, lmv100, lad100, lsu100, ldi100, leq2000, lle2000, lge2000, llt2000, lgt2000, lmu2000, lmv2000, lad2000, lsu2000, ldi2000, xlt, hlt, hb]
      exact hX'
    · by_cases hr : refd σ w s p
      · have hX' := ih (s + 1) True (by omega) (by
          rw [xb_t (Or.inl trivial)]
          rw [xb_t (Or.inr ⟨s, Nat.le_refl _, by omega, hr⟩)] at hX
          exact hX)
        simp only [xbT] at hX'
        rw [e112_64]
        simp (disch := omega) only [e112_66, e112_67, e112_70, e112_72, e112_75, e112_77, e112_80, e112_82, e112_85, e112_85n, e112_86, e112_87, e112_89, e112_91, e112_94, e112_97, e112_98, e112_101, e112_102, e112_104, e112_107, xKv, xK0, xKx, xKHv, xKH0, xk_none, xk_i, xk_f, xk_l, xk_r, xk_n, xc_i, xc_f, xc_l, xc_d, xc_r, xc_n, xo_some, List.map_cons, List.map_nil, List.sum_cons, List.sum_nil, xnzn, xpn0, xpn1, xpnb, xpnn, i10, i00, true_imp_iff, false_imp_iff, not_true_eq_false, not_false_eq_true, true_and, and_true, implies_true, xnz0, xnz1, xnzb, xfz0, xfz1, xfzb, Option.isSome_some, if_true, if_false, xbF, xbT, and_false, false_and, Nat.zero_le, Nat.reduceEqDiff, Nat.reduceLeDiff, Nat.reduceAdd, Nat.reduceSub, xiT, xiF, pk_mul, nI_add, Nat.add_sub_cancel, lad0, leq0, lle0, lge0, llt0, lgt0, leq1, lle1, lge1, llt1, lgt1, lad1, lsu1, leq2, lle2, lge2, llt2, lgt2, lmu2, lmv2, lad2, lsu2, ldi2, leq3, lle3, lge3, llt3, lgt3, lmu3, lmv3, lad3, lsu3, ldi3, leq4, lle4, lge4, llt4, lgt4, lmu4, lmv4, lad4, lsu4, ldi4, leq5, lle5, lge5, llt5, lgt5, lmu5, lmv5, lad5, lsu5, ldi5, leq6, lle6, lge6, llt6, lgt6, lmu6, lmv6, lad6, lsu6, ldi6, leq8, lle8, lge8, llt8, lgt8, lmu8, lmv8, lad8, lsu8, ldi8, leq9, lle9, lge9, llt9, lgt9, lmu9, lmv9, lad9, lsu9, ldi9, leq10, lle10, lge10, llt10, lgt10, lmu10, lmv10, lad10, lsu10, ldi10, leq12, lle12, lge12, llt12, lgt12, lmu12, lmv12, lad12, lsu12, ldi12, leq20, lle20, lge20, llt20, lgt20, lmu20, lmv20, lad20, lsu20, ldi20, leq25, lle25, lge25, llt25, lgt25, lmu25, lmv25, lad25, lsu25, ldi25, leq30, lle30, lge30, llt30, lgt30, lmu30, lmv30, lad30, lsu30, ldi30, leq48, lle48, lge48, llt48, lgt48, lmu48, lmv48, lad48, lsu48, ldi48, leq50, lle50, lge50, llt50, lgt50, lmu50, lmv50, lad50, lsu50, ldi50, leq99, lle99, lge99, llt99, lgt99, lmu99, lmv99, lad99, lsu99, ldi99, leq100, lle100, lge100, llt100, lgt100, lmu100, lmv100, lad100, lsu100, ldi100, leq2000, lle2000, lge2000, llt2000, lgt2000, lmu2000, lmv2000, lad2000, lsu2000, ldi2000, xlt, hlt, hb, h.is, sp_isRefused h hI, hr]
        exact hX'
      · have hX' := ih (s + 1) False (by omega) (by
          have e : (False ∨ ∃ i, s + 1 ≤ i ∧ i ≤ t ∧ refd σ w i p) ↔ (b ∨ ∃ i, s ≤ i ∧ i ≤ t ∧ refd σ w i p) := by
            constructor
            · rintro (q | ⟨i, h1, h2, h3⟩)
              · exact q.elim
              · exact Or.inr ⟨i, by omega, h2, h3⟩
            · rintro (q | ⟨i, h1, h2, h3⟩)
              · exact absurd q hb
              · by_cases e : i = s
                · subst e; exact absurd h3 hr
                · exact Or.inr ⟨i, by omega, h2, h3⟩
          rw [xb_congr e]
          exact hX)
        simp only [xbF] at hX'
        rw [e112_64]
        simp (disch := omega) only [e112_66, e112_67, e112_70, e112_72, e112_75, e112_77, e112_80, e112_82, e112_85, e112_85n, e112_86, e112_87, e112_89, e112_91, e112_94, e112_97, e112_98, e112_101, e112_102, e112_104, e112_107, xKv, xK0, xKx, xKHv, xKH0, xk_none, xk_i, xk_f, xk_l, xk_r, xk_n, xc_i, xc_f, xc_l, xc_d, xc_r, xc_n, xo_some, List.map_cons, List.map_nil, List.sum_cons, List.sum_nil, xnzn, xpn0, xpn1, xpnb, xpnn, i10, i00, true_imp_iff, false_imp_iff, not_true_eq_false, not_false_eq_true, true_and, and_true, implies_true, xnz0, xnz1, xnzb, xfz0, xfz1, xfzb, Option.isSome_some, if_true, if_false, xbF, xbT, and_false, false_and, Nat.zero_le, Nat.reduceEqDiff, Nat.reduceLeDiff, Nat.reduceAdd, Nat.reduceSub, xiT, xiF, pk_mul, nI_add, Nat.add_sub_cancel, lad0, leq0, lle0, lge0, llt0, lgt0, leq1, lle1, lge1, llt1, lgt1, lad1, lsu1, leq2, lle2, lge2, llt2, lgt2, lmu2, lmv2, lad2, lsu2, ldi2, leq3, lle3, lge3, llt3, lgt3, lmu3, lmv3, lad3, lsu3, ldi3, leq4, lle4, lge4, llt4, lgt4, lmu4, lmv4, lad4, lsu4, ldi4, leq5, lle5, lge5, llt5, lgt5, lmu5, lmv5, lad5, lsu5, ldi5, leq6, lle6, lge6, llt6, lgt6, lmu6, lmv6, lad6, lsu6, ldi6, leq8, lle8, lge8, llt8, lgt8, lmu8, lmv8, lad8, lsu8, ldi8, leq9, lle9, lge9, llt9, lgt9, lmu9, lmv9, lad9, lsu9, ldi9, leq10, lle10, lge10, llt10, lgt10, lmu10, lmv10, lad10, lsu10, ldi10, leq12, lle12, lge12, llt12, lgt12, lmu12, lmv12, lad12, lsu12, ldi12, leq20, lle20, lge20, llt20, lgt20, lmu20, lmv20, lad20, lsu20, ldi20, leq25, lle25, lge25, llt25, lgt25, lmu25, lmv25, lad25, lsu25, ldi25, leq30, lle30, lge30, llt30, lgt30, lmu30, lmv30, lad30, lsu30, ldi30, leq48, lle48, lge48, llt48, lgt48, lmu48, lmv48, lad48, lsu48, ldi48, leq50, lle50, lge50, llt50, lgt50, lmu50, lmv50, lad50, lsu50, ldi50, leq99, lle99, lge99, llt99, lgt99, lmu99, lmv99, lad99, lsu99, ldi99, leq100, lle100, lge100, llt100, lgt100, lmu100, lmv100, lad100, lsu100, ldi100, leq2000, lle2000, lge2000, llt2000, lgt2000, lmu2000, lmv2000, lad2000, lsu2000, ldi2000, xlt, hlt, hb, h.is, sp_isRefused h hI, hr]
        exact hX'
theorem lay_8 {w p k s i : Nat} (hi : i ≠ s) : lay w p k σ s 8 (12 * w + i) = σ 8 (12 * w + i) := by
  unfold lay
  simp (disch := omega) only [su_ne]
theorem lay_8s {w p k s : Nat} : lay w p k σ s 8 (12 * w + s) = σ 8 (12 * w + s) + 1 := by
  unfold lay
  simp (disch := omega) only [su_ne, su_eq]
theorem lay_o {w p k s c i : Nat} (hc : c < 8 ∨ 15 < c) : lay w p k σ s c i = σ c i := by
  unfold lay
  simp (disch := omega) only [su_ne]
theorem lp_coat2 {w t p k : Nat} {f0 : Value} {l6 l7 l1 l2 l3 : Option Value} {b8 : Int32} (ht : t < 12) (hp : p < 4) (hk : k ≤ 20) : ∀ (n s : Nat) (σ : xS) (ah : xH), MR ad m ah0 ah σ th → MI σ → w < σ 3 0 → t < σ 4 w → (∀ i, s ≤ i → i ≤ t → ¬ σ 8 (12 * w + i) = 6) → s + n = t + 1 →
    (∀ ah', MR ad m ah0 ah' (fo (lay w p k) n s σ) th → MI (fo (lay w p k) n s σ) → xW (T112 κ) (xm κ) R (173, [some (.ref m), some (.int (nI w)), some f0, some (.int (nI t)), some (.int (nI p)), some (.int (nI k)), l6, l7, some (.int b8), some (.int (nI (t + 1))), l1, l2, l3], [], ah', 0, 0)) →
    xW (T112 κ) (xm κ) R (150, [some (.ref m), some (.int (nI w)), some f0, some (.int (nI t)), some (.int (nI p)), some (.int (nI k)), l6, l7, some (.int b8), some (.int (nI s)), l1, l2, l3], [], ah, 0, 0) := by
  intro n
  induction n with
  | zero =>
    intro s σ ah h hI hw hs4 h6 hs hX
    have hs' : s = t + 1 := by omega
    subst hs'
    rw [e112_150]
    simp (disch := omega) only [e112_152, e112_153, e112_156, e112_156n, e112_157, e112_158, e112_160, e112_162, e112_164, e112_167, e112_170, xKv, xK0, xKx, xKHv, xKH0, xk_none, xk_i, xk_f, xk_l, xk_r, xk_n, xc_i, xc_f, xc_l, xc_d, xc_r, xc_n, xo_some, List.map_cons, List.map_nil, List.sum_cons, List.sum_nil, xnzn, xpn0, xpn1, xpnb, xpnn, i10, i00, true_imp_iff, false_imp_iff, not_true_eq_false, not_false_eq_true, true_and, and_true, implies_true, xnz0, xnz1, xnzb, xfz0, xfz1, xfzb, Option.isSome_some, if_true, if_false, xbF, xbT, and_false, false_and, Nat.zero_le, Nat.reduceEqDiff, Nat.reduceLeDiff, Nat.reduceAdd, Nat.reduceSub, xiT, xiF, pk_mul, nI_add, Nat.add_sub_cancel, lad0, leq0, lle0, lge0, llt0, lgt0, leq1, lle1, lge1, llt1, lgt1, lad1, lsu1, leq2, lle2, lge2, llt2, lgt2, lmu2, lmv2, lad2, lsu2, ldi2, leq3, lle3, lge3, llt3, lgt3, lmu3, lmv3, lad3, lsu3, ldi3, leq4, lle4, lge4, llt4, lgt4, lmu4, lmv4, lad4, lsu4, ldi4, leq5, lle5, lge5, llt5, lgt5, lmu5, lmv5, lad5, lsu5, ldi5, leq6, lle6, lge6, llt6, lgt6, lmu6, lmv6, lad6, lsu6, ldi6, leq8, lle8, lge8, llt8, lgt8, lmu8, lmv8, lad8, lsu8, ldi8, leq9, lle9, lge9, llt9, lgt9, lmu9, lmv9, lad9, lsu9, ldi9, leq10, lle10, lge10, llt10, lgt10, lmu10, lmv10, lad10, lsu10, ldi10, leq12, lle12, lge12, llt12, lgt12, lmu12, lmv12, lad12, lsu12, ldi12, leq20, lle20, lge20, llt20, lgt20, lmu20, lmv20, lad20, lsu20, ldi20, leq25, lle25, lge25, llt25, lgt25, lmu25, lmv25, lad25, lsu25, ldi25, leq30, lle30, lge30, llt30, lgt30, lmu30, lmv30, lad30, lsu30, ldi30, leq48, lle48, lge48, llt48, lgt48, lmu48, lmv48, lad48, lsu48, ldi48, leq50, lle50, lge50, llt50, lgt50, lmu50, lmv50, lad50, lsu50, ldi50, leq99, lle99, lge99, llt99, lgt99, lmu99, lmv99, lad99, lsu99, ldi99, leq100, lle100, lge100, llt100, lgt100, lmu100, lmv100, lad100, lsu100, ldi100, leq2000, lle2000, lge2000, llt2000, lgt2000, lmu2000, lmv2000, lad2000, lsu2000, ldi2000, xlt, Nat.lt_succ_self]
    exact hX ah h hI
  | succ n ih =>
    intro s σ ah h hI hw hs4 h6 hs hX
    have hW := hI.W
    have hlt : ¬ t < s := by omega
    rw [e112_150]
    simp (disch := omega) only [e112_152, e112_153, e112_156, e112_156n, e112_157, e112_158, e112_160, e112_162, xKv, xK0, xKx, xKHv, xKH0, xk_none, xk_i, xk_f, xk_l, xk_r, xk_n, xc_i, xc_f, xc_l, xc_d, xc_r, xc_n, xo_some, List.map_cons, List.map_nil, List.sum_cons, List.sum_nil, xnzn, xpn0, xpn1, xpnb, xpnn, i10, i00, true_imp_iff, false_imp_iff, not_true_eq_false, not_false_eq_true, true_and, and_true, implies_true, xnz0, xnz1, xnzb, xfz0, xfz1, xfzb, Option.isSome_some, if_true, if_false, xbF, xbT, and_false, false_and, Nat.zero_le, Nat.reduceEqDiff, Nat.reduceLeDiff, Nat.reduceAdd, Nat.reduceSub, xiT, xiF, pk_mul, nI_add, Nat.add_sub_cancel, lad0, leq0, lle0, lge0, llt0, lgt0, leq1, lle1, lge1, llt1, lgt1, lad1, lsu1, leq2, lle2, lge2, llt2, lgt2, lmu2, lmv2, lad2, lsu2, ldi2, leq3, lle3, lge3, llt3, lgt3, lmu3, lmv3, lad3, lsu3, ldi3, leq4, lle4, lge4, llt4, lgt4, lmu4, lmv4, lad4, lsu4, ldi4, leq5, lle5, lge5, llt5, lgt5, lmu5, lmv5, lad5, lsu5, ldi5, leq6, lle6, lge6, llt6, lgt6, lmu6, lmv6, lad6, lsu6, ldi6, leq8, lle8, lge8, llt8, lgt8, lmu8, lmv8, lad8, lsu8, ldi8, leq9, lle9, lge9, llt9, lgt9, lmu9, lmv9, lad9, lsu9, ldi9, leq10, lle10, lge10, llt10, lgt10, lmu10, lmv10, lad10, lsu10, ldi10, leq12, lle12, lge12, llt12, lgt12, lmu12, lmv12, lad12, lsu12, ldi12, leq20, lle20, lge20, llt20, lgt20, lmu20, lmv20, lad20, lsu20, ldi20, leq25, lle25, lge25, llt25, lgt25, lmu25, lmv25, lad25, lsu25, ldi25, leq30, lle30, lge30, llt30, lgt30, lmu30, lmv30, lad30, lsu30, ldi30, leq48, lle48, lge48, llt48, lgt48, lmu48, lmv48, lad48, lsu48, ldi48, leq50, lle50, lge50, llt50, lgt50, lmu50, lmv50, lad50, lsu50, ldi50, leq99, lle99, lge99, llt99, lgt99, lmu99, lmv99, lad99, lsu99, ldi99, leq100, lle100, lge100, llt100, lgt100, lmu100, lmv100, lad100, lsu100, ldi100, leq2000, lle2000, lge2000, llt2000, lgt2000, lmu2000, lmv2000, lad2000, lsu2000, ldi2000, xlt, hlt]
    rw [e112_164]
    refine ⟨⟨by decide, h.is⟩, sp_lays h hI (by omega) (by omega) hp hk (h6 s (Nat.le_refl _) (by omega)) (fun ah' h' => ?_)⟩
    simp (disch := omega) only [e112_167, e112_170, xKv, xK0, xKx, xKHv, xKH0, xk_none, xk_i, xk_f, xk_l, xk_r, xk_n, xc_i, xc_f, xc_l, xc_d, xc_r, xc_n, xo_some, List.map_cons, List.map_nil, List.sum_cons, List.sum_nil, xnzn, xpn0, xpn1, xpnb, xpnn, i10, i00, true_imp_iff, false_imp_iff, not_true_eq_false, not_false_eq_true, true_and, and_true, implies_true, xnz0, xnz1, xnzb, xfz0, xfz1, xfzb, Option.isSome_some, if_true, if_false, xbF, xbT, and_false, false_and, Nat.zero_le, Nat.reduceEqDiff, Nat.reduceLeDiff, Nat.reduceAdd, Nat.reduceSub, xiT, xiF, pk_mul, nI_add, Nat.add_sub_cancel, lad0, leq0, lle0, lge0, llt0, lgt0, leq1, lle1, lge1, llt1, lgt1, lad1, lsu1, leq2, lle2, lge2, llt2, lgt2, lmu2, lmv2, lad2, lsu2, ldi2, leq3, lle3, lge3, llt3, lgt3, lmu3, lmv3, lad3, lsu3, ldi3, leq4, lle4, lge4, llt4, lgt4, lmu4, lmv4, lad4, lsu4, ldi4, leq5, lle5, lge5, llt5, lgt5, lmu5, lmv5, lad5, lsu5, ldi5, leq6, lle6, lge6, llt6, lgt6, lmu6, lmv6, lad6, lsu6, ldi6, leq8, lle8, lge8, llt8, lgt8, lmu8, lmv8, lad8, lsu8, ldi8, leq9, lle9, lge9, llt9, lgt9, lmu9, lmv9, lad9, lsu9, ldi9, leq10, lle10, lge10, llt10, lgt10, lmu10, lmv10, lad10, lsu10, ldi10, leq12, lle12, lge12, llt12, lgt12, lmu12, lmv12, lad12, lsu12, ldi12, leq20, lle20, lge20, llt20, lgt20, lmu20, lmv20, lad20, lsu20, ldi20, leq25, lle25, lge25, llt25, lgt25, lmu25, lmv25, lad25, lsu25, ldi25, leq30, lle30, lge30, llt30, lgt30, lmu30, lmv30, lad30, lsu30, ldi30, leq48, lle48, lge48, llt48, lgt48, lmu48, lmv48, lad48, lsu48, ldi48, leq50, lle50, lge50, llt50, lgt50, lmu50, lmv50, lad50, lsu50, ldi50, leq99, lle99, lge99, llt99, lgt99, lmu99, lmv99, lad99, lsu99, ldi99, leq100, lle100, lge100, llt100, lgt100, lmu100, lmv100, lad100, lsu100, ldi100, leq2000, lle2000, lge2000, llt2000, lgt2000, lmu2000, lmv2000, lad2000, lsu2000, ldi2000]
    refine ih (s + 1) (lay w p k σ s) ah' h' (MI_lay hI hw (by omega) hp hk (h6 s (Nat.le_refl _) (by omega))) ?_ ?_ ?_ (by omega) hX
    · rw [lay_o (by decide)]; exact hw
    · rw [lay_o (by decide)]; exact hs4
    · intro i hi hi2
      rw [lay_8 (by omega)]
      exact h6 i (by omega) hi2
end
