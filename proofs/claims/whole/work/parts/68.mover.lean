/-! over -/
def mk1 (σ : xS) (p o i : Nat) : Prop := σ 22 (i / 48) = p + 1 ∧ σ 22 (i % 48) = o + 1 ∧ besd (i / 48) (i % 48)
def metP (σ : xS) (p o : Nat) : Prop := ∃ i, 0 ≤ i ∧ i < 2304 ∧ mk1 σ p o i
noncomputable def ovn (σ : xS) (p : Nat) : Nat → Nat → Nat
  | 0, _ => 0
  | n + 1, o => xi (metP σ p o) 1 0 + ovn σ p n (o + 1)
theorem rem48 {k : Nat} (h : k < 2 ^ 31) : nI k - nI (k / 48 * 48) = nI (k % 48) := pk_rem' h (by decide) (by decide)
theorem i480 : ((48 : Int32) = 0) = False := by decide
theorem lge2304 {a : Nat} (h : a < 2 ^ 31) : (2304 ≤ nI a) = (2304 ≤ a) := xle (by decide) h
section
variable {κ : Nat → Nat} {R : xR → xH → Prop} {ad : Nat → Nat} {m : Nat} {ah0 ah : xH} {σ : xS} {th : Nat}
theorem lp_meet (h : MR ad m ah0 ah σ th) (hI : MI σ) {p o : Nat} (hp : p < 30) (ho : o < 30) : ∀ (n k : Nat) (b : Prop), k + n = 2304 →
    R (.inl (some (.int (xb (b ∨ ∃ i, k ≤ i ∧ i < 2304 ∧ mk1 σ p o i))))) ah →
    xW (T140 κ) (xm κ) R (5, [some (.ref m), some (.int (nI p)), some (.int (nI o)), some (.int (xb b)), some (.int (nI k))], [], ah, 0, 0) := by
  have hQ := hI.Q
  obtain ⟨f22, ha22, hf22⟩ := h.r22
  intro n
  induction n with
  | zero =>
    intro k b hk hX
    have e : (b ∨ ∃ i, k ≤ i ∧ i < 2304 ∧ mk1 σ p o i) ↔ b := ⟨fun q => q.elim id (fun ⟨i, h1, h2, _⟩ => absurd h1 (by omega)), Or.inl⟩
    rw [xb_congr e] at hX
    have hk' : k = 2304 := by omega
    subst hk'
    rw [e140_5]
    simp (disch := omega) only [e140_7, e140_10, e140_13, e140_14, e140_17, e140_17n, e140_18, e140_21, e140_23, e140_25, e140_26, e140_27, e140_28, e140_31, e140_31n, e140_32, e140_35, e140_37, e140_39, e140_40, e140_41, e140_42, e140_45, e140_47, e140_49, e140_50, e140_52, e140_54, e140_55, e140_58, e140_61, e140_62, e140_65, e140_66, e140_67, e140_70, e140_73, e140_74, xKv, xK0, xKx, xKHv, xKH0, xk_none, xk_i, xk_f, xk_l, xk_r, xk_n, xc_i, xc_f, xc_l, xc_d, xc_r, xc_n, xo_some, List.map_cons, List.map_nil, List.sum_cons, List.sum_nil, xnzn, xpn0, xpn1, xpnb, xpnn, i10, i00, true_imp_iff, false_imp_iff, not_true_eq_false, not_false_eq_true, true_and, and_true, implies_true, xnz0, xnz1, xnzb, xfz0, xfz1, xfzb, Option.isSome_some, if_true, if_false, xbF, xbT, and_false, false_and, Nat.zero_le, Nat.reduceEqDiff, Nat.reduceLeDiff, Nat.reduceAdd, Nat.reduceSub, xiT, xiF, pk_mul, nI_add, Nat.add_sub_cancel, lad0, leq0, lle0, lge0, llt0, lgt0, leq1, lle1, lge1, llt1, lgt1, lad1, lsu1, leq2, lle2, lge2, llt2, lgt2, lmu2, lmv2, lad2, lsu2, ldi2, leq3, lle3, lge3, llt3, lgt3, lmu3, lmv3, lad3, lsu3, ldi3, leq4, lle4, lge4, llt4, lgt4, lmu4, lmv4, lad4, lsu4, ldi4, leq5, lle5, lge5, llt5, lgt5, lmu5, lmv5, lad5, lsu5, ldi5, leq6, lle6, lge6, llt6, lgt6, lmu6, lmv6, lad6, lsu6, ldi6, leq8, lle8, lge8, llt8, lgt8, lmu8, lmv8, lad8, lsu8, ldi8, leq9, lle9, lge9, llt9, lgt9, lmu9, lmv9, lad9, lsu9, ldi9, leq10, lle10, lge10, llt10, lgt10, lmu10, lmv10, lad10, lsu10, ldi10, leq12, lle12, lge12, llt12, lgt12, lmu12, lmv12, lad12, lsu12, ldi12, leq20, lle20, lge20, llt20, lgt20, lmu20, lmv20, lad20, lsu20, ldi20, leq25, lle25, lge25, llt25, lgt25, lmu25, lmv25, lad25, lsu25, ldi25, leq30, lle30, lge30, llt30, lgt30, lmu30, lmv30, lad30, lsu30, ldi30, leq48, lle48, lge48, llt48, lgt48, lmu48, lmv48, lad48, lsu48, ldi48, leq50, lle50, lge50, llt50, lgt50, lmu50, lmv50, lad50, lsu50, ldi50, leq99, lle99, lge99, llt99, lgt99, lmu99, lmv99, lad99, lsu99, ldi99, leq100, lle100, lge100, llt100, lgt100, lmu100, lmv100, lad100, lsu100, ldi100, leq2000, lle2000, lge2000, llt2000, lgt2000, lmu2000, lmv2000, lad2000, lsu2000, ldi2000, lge2304, Nat.le_refl]
    exact hX
  | succ n ih =>
    intro k b hk hX
    have hlt : ¬ 2304 ≤ k := by omega
    have step : ∀ (b' : Prop), (b' ↔ (b ∨ mk1 σ p o k)) → xW (T140 κ) (xm κ) R (5, [some (.ref m), some (.int (nI p)), some (.int (nI o)), some (.int (xb b')), some (.int (nI (k + 1)))], [], ah, 0, 0) := by
      intro b' hb'
      refine ih (k + 1) b' (by omega) ?_
      have e : (b' ∨ ∃ i, k + 1 ≤ i ∧ i < 2304 ∧ mk1 σ p o i) ↔ (b ∨ ∃ i, k ≤ i ∧ i < 2304 ∧ mk1 σ p o i) := by
        rw [hb']
        constructor
        · rintro ((q | q) | ⟨i, h1, h2, h3⟩)
          · exact Or.inl q
          · exact Or.inr ⟨k, Nat.le_refl _, by omega, q⟩
          · exact Or.inr ⟨i, by omega, h2, h3⟩
        · rintro (q | ⟨i, h1, h2, h3⟩)
          · exact Or.inl (Or.inl q)
          · by_cases e : i = k
            · subst e; exact Or.inl (Or.inr h3)
            · exact Or.inr ⟨i, by omega, h2, h3⟩
      rw [xb_congr e]
      exact hX
    by_cases hb : b
    · have st := step True ⟨fun _ => Or.inl hb, fun _ => trivial⟩
      simp only [xbT] at st
      rw [e140_5]
      simp (disch := omega) only [e140_7, e140_10, e140_13, e140_14, e140_17, e140_17n, e140_18, e140_21, e140_23, e140_25, e140_26, e140_27, e140_28, e140_31, e140_31n, e140_32, e140_35, e140_37, e140_39, e140_40, e140_41, e140_42, e140_45, e140_47, e140_49, e140_50, e140_52, e140_54, e140_55, e140_58, e140_61, e140_62, e140_65, e140_66, e140_67, e140_70, e140_73, e140_74, xKv, xK0, xKx, xKHv, xKH0, xk_none, xk_i, xk_f, xk_l, xk_r, xk_n, xc_i, xc_f, xc_l, xc_d, xc_r, xc_n, xo_some, List.map_cons, List.map_nil, List.sum_cons, List.sum_nil, xnzn, xpn0, xpn1, xpnb, xpnn, i10, i00, true_imp_iff, false_imp_iff, not_true_eq_false, not_false_eq_true, true_and, and_true, implies_true, xnz0, xnz1, xnzb, xfz0, xfz1, xfzb, Option.isSome_some, if_true, if_false, xbF, xbT, and_false, false_and, Nat.zero_le, Nat.reduceEqDiff, Nat.reduceLeDiff, Nat.reduceAdd, Nat.reduceSub, xiT, xiF, pk_mul, nI_add, Nat.add_sub_cancel, lad0, leq0, lle0, lge0, llt0, lgt0, leq1, lle1, lge1, llt1, lgt1, lad1, lsu1, leq2, lle2, lge2, llt2, lgt2, lmu2, lmv2, lad2, lsu2, ldi2, leq3, lle3, lge3, llt3, lgt3, lmu3, lmv3, lad3, lsu3, ldi3, leq4, lle4, lge4, llt4, lgt4, lmu4, lmv4, lad4, lsu4, ldi4, leq5, lle5, lge5, llt5, lgt5, lmu5, lmv5, lad5, lsu5, ldi5, leq6, lle6, lge6, llt6, lgt6, lmu6, lmv6, lad6, lsu6, ldi6, leq8, lle8, lge8, llt8, lgt8, lmu8, lmv8, lad8, lsu8, ldi8, leq9, lle9, lge9, llt9, lgt9, lmu9, lmv9, lad9, lsu9, ldi9, leq10, lle10, lge10, llt10, lgt10, lmu10, lmv10, lad10, lsu10, ldi10, leq12, lle12, lge12, llt12, lgt12, lmu12, lmv12, lad12, lsu12, ldi12, leq20, lle20, lge20, llt20, lgt20, lmu20, lmv20, lad20, lsu20, ldi20, leq25, lle25, lge25, llt25, lgt25, lmu25, lmv25, lad25, lsu25, ldi25, leq30, lle30, lge30, llt30, lgt30, lmu30, lmv30, lad30, lsu30, ldi30, leq48, lle48, lge48, llt48, lgt48, lmu48, lmv48, lad48, lsu48, ldi48, leq50, lle50, lge50, llt50, lgt50, lmu50, lmv50, lad50, lsu50, ldi50, leq99, lle99, lge99, llt99, lgt99, lmu99, lmv99, lad99, lsu99, ldi99, leq100, lle100, lge100, llt100, lgt100, lmu100, lmv100, lad100, lsu100, ldi100, leq2000, lle2000, lge2000, llt2000, lgt2000, lmu2000, lmv2000, lad2000, lsu2000, ldi2000, lge2304, hlt, hb]
      exact st
    · have hd : k / 48 < 48 := by omega
      have hm : k % 48 < 48 := by omega
      have e1 := hf22 (k / 48) hd
      have e2 := hf22 (k % 48) hm
      have q1 := (hI.cell hd).1
      have q2 := (hI.cell hm).1
      by_cases h1 : σ 22 (k / 48) = p + 1
      · have h1' : (σ 22 (k / 48) = p + 1) = True := eq_true h1
        by_cases h2 : σ 22 (k % 48) = o + 1
        · have h2' : (σ 22 (k % 48) = o + 1) = True := eq_true h2
          by_cases h3 : besd (k / 48) (k % 48)
          · have st := step True ⟨fun _ => Or.inr ⟨h1, h2, h3⟩, fun _ => trivial⟩
            simp only [xbT] at st
            rw [e140_5]
            simp (disch := omega) only [e140_7, e140_10, e140_13, e140_14, e140_17, e140_17n, e140_18, e140_21, e140_23, e140_25, e140_26, e140_27, e140_28, e140_31, e140_31n, e140_32, e140_35, e140_37, e140_39, e140_40, e140_41, e140_42, e140_45, e140_47, e140_49, e140_50, e140_52, e140_54, e140_55, e140_58, e140_61, e140_62, e140_65, e140_66, e140_67, e140_70, e140_73, e140_74, xKv, xK0, xKx, xKHv, xKH0, xk_none, xk_i, xk_f, xk_l, xk_r, xk_n, xc_i, xc_f, xc_l, xc_d, xc_r, xc_n, xo_some, List.map_cons, List.map_nil, List.sum_cons, List.sum_nil, xnzn, xpn0, xpn1, xpnb, xpnn, i10, i00, true_imp_iff, false_imp_iff, not_true_eq_false, not_false_eq_true, true_and, and_true, implies_true, xnz0, xnz1, xnzb, xfz0, xfz1, xfzb, Option.isSome_some, if_true, if_false, xbF, xbT, and_false, false_and, Nat.zero_le, Nat.reduceEqDiff, Nat.reduceLeDiff, Nat.reduceAdd, Nat.reduceSub, xiT, xiF, pk_mul, nI_add, Nat.add_sub_cancel, lad0, leq0, lle0, lge0, llt0, lgt0, leq1, lle1, lge1, llt1, lgt1, lad1, lsu1, leq2, lle2, lge2, llt2, lgt2, lmu2, lmv2, lad2, lsu2, ldi2, leq3, lle3, lge3, llt3, lgt3, lmu3, lmv3, lad3, lsu3, ldi3, leq4, lle4, lge4, llt4, lgt4, lmu4, lmv4, lad4, lsu4, ldi4, leq5, lle5, lge5, llt5, lgt5, lmu5, lmv5, lad5, lsu5, ldi5, leq6, lle6, lge6, llt6, lgt6, lmu6, lmv6, lad6, lsu6, ldi6, leq8, lle8, lge8, llt8, lgt8, lmu8, lmv8, lad8, lsu8, ldi8, leq9, lle9, lge9, llt9, lgt9, lmu9, lmv9, lad9, lsu9, ldi9, leq10, lle10, lge10, llt10, lgt10, lmu10, lmv10, lad10, lsu10, ldi10, leq12, lle12, lge12, llt12, lgt12, lmu12, lmv12, lad12, lsu12, ldi12, leq20, lle20, lge20, llt20, lgt20, lmu20, lmv20, lad20, lsu20, ldi20, leq25, lle25, lge25, llt25, lgt25, lmu25, lmv25, lad25, lsu25, ldi25, leq30, lle30, lge30, llt30, lgt30, lmu30, lmv30, lad30, lsu30, ldi30, leq48, lle48, lge48, llt48, lgt48, lmu48, lmv48, lad48, lsu48, ldi48, leq50, lle50, lge50, llt50, lgt50, lmu50, lmv50, lad50, lsu50, ldi50, leq99, lle99, lge99, llt99, lgt99, lmu99, lmv99, lad99, lsu99, ldi99, leq100, lle100, lge100, llt100, lgt100, lmu100, lmv100, lad100, lsu100, ldi100, leq2000, lle2000, lge2000, llt2000, lgt2000, lmu2000, lmv2000, lad2000, lsu2000, ldi2000, lge2304, hlt, hb, h.a 22, ha22, e1, e2, cv22e, h1', h2', xin_nI, nI_cl, rem48, i480, sp_m_beside, h3]
            exact st
          · have st := step False ⟨fun q => q.elim, fun q => q.elim hb (fun q => h3 q.2.2)⟩
            simp only [xbF] at st
            rw [e140_5]
            simp (disch := omega) only [e140_7, e140_10, e140_13, e140_14, e140_17, e140_17n, e140_18, e140_21, e140_23, e140_25, e140_26, e140_27, e140_28, e140_31, e140_31n, e140_32, e140_35, e140_37, e140_39, e140_40, e140_41, e140_42, e140_45, e140_47, e140_49, e140_50, e140_52, e140_54, e140_55, e140_58, e140_61, e140_62, e140_65, e140_66, e140_67, e140_70, e140_73, e140_74, xKv, xK0, xKx, xKHv, xKH0, xk_none, xk_i, xk_f, xk_l, xk_r, xk_n, xc_i, xc_f, xc_l, xc_d, xc_r, xc_n, xo_some, List.map_cons, List.map_nil, List.sum_cons, List.sum_nil, xnzn, xpn0, xpn1, xpnb, xpnn, i10, i00, true_imp_iff, false_imp_iff, not_true_eq_false, not_false_eq_true, true_and, and_true, implies_true, xnz0, xnz1, xnzb, xfz0, xfz1, xfzb, Option.isSome_some, if_true, if_false, xbF, xbT, and_false, false_and, Nat.zero_le, Nat.reduceEqDiff, Nat.reduceLeDiff, Nat.reduceAdd, Nat.reduceSub, xiT, xiF, pk_mul, nI_add, Nat.add_sub_cancel, lad0, leq0, lle0, lge0, llt0, lgt0, leq1, lle1, lge1, llt1, lgt1, lad1, lsu1, leq2, lle2, lge2, llt2, lgt2, lmu2, lmv2, lad2, lsu2, ldi2, leq3, lle3, lge3, llt3, lgt3, lmu3, lmv3, lad3, lsu3, ldi3, leq4, lle4, lge4, llt4, lgt4, lmu4, lmv4, lad4, lsu4, ldi4, leq5, lle5, lge5, llt5, lgt5, lmu5, lmv5, lad5, lsu5, ldi5, leq6, lle6, lge6, llt6, lgt6, lmu6, lmv6, lad6, lsu6, ldi6, leq8, lle8, lge8, llt8, lgt8, lmu8, lmv8, lad8, lsu8, ldi8, leq9, lle9, lge9, llt9, lgt9, lmu9, lmv9, lad9, lsu9, ldi9, leq10, lle10, lge10, llt10, lgt10, lmu10, lmv10, lad10, lsu10, ldi10, leq12, lle12, lge12, llt12, lgt12, lmu12, lmv12, lad12, lsu12, ldi12, leq20, lle20, lge20, llt20, lgt20, lmu20, lmv20, lad20, lsu20, ldi20, leq25, lle25, lge25, llt25, lgt25, lmu25, lmv25, lad25, lsu25, ldi25, leq30, lle30, lge30, llt30, lgt30, lmu30, lmv30, lad30, lsu30, ldi30, leq48, lle48, lge48, llt48, lgt48, lmu48, lmv48, lad48, lsu48, ldi48, leq50, lle50, lge50, llt50, lgt50, lmu50, lmv50, lad50, lsu50, ldi50, leq99, lle99, lge99, llt99, lgt99, lmu99, lmv99, lad99, lsu99, ldi99, leq100, lle100, lge100, llt100, lgt100, lmu100, lmv100, lad100, lsu100, ldi100, leq2000, lle2000, lge2000, llt2000, lgt2000, lmu2000, lmv2000, lad2000, lsu2000, ldi2000, lge2304, hlt, hb, h.a 22, ha22, e1, e2, cv22e, h1', h2', xin_nI, nI_cl, rem48, i480, sp_m_beside, h3]
            exact st
        · have st := step False ⟨fun q => q.elim, fun q => q.elim hb (fun q => h2 q.2.1)⟩
          simp only [xbF] at st
          rw [e140_5]
          simp (disch := omega) only [e140_7, e140_10, e140_13, e140_14, e140_17, e140_17n, e140_18, e140_21, e140_23, e140_25, e140_26, e140_27, e140_28, e140_31, e140_31n, e140_32, e140_35, e140_37, e140_39, e140_40, e140_41, e140_42, e140_45, e140_47, e140_49, e140_50, e140_52, e140_54, e140_55, e140_58, e140_61, e140_62, e140_65, e140_66, e140_67, e140_70, e140_73, e140_74, xKv, xK0, xKx, xKHv, xKH0, xk_none, xk_i, xk_f, xk_l, xk_r, xk_n, xc_i, xc_f, xc_l, xc_d, xc_r, xc_n, xo_some, List.map_cons, List.map_nil, List.sum_cons, List.sum_nil, xnzn, xpn0, xpn1, xpnb, xpnn, i10, i00, true_imp_iff, false_imp_iff, not_true_eq_false, not_false_eq_true, true_and, and_true, implies_true, xnz0, xnz1, xnzb, xfz0, xfz1, xfzb, Option.isSome_some, if_true, if_false, xbF, xbT, and_false, false_and, Nat.zero_le, Nat.reduceEqDiff, Nat.reduceLeDiff, Nat.reduceAdd, Nat.reduceSub, xiT, xiF, pk_mul, nI_add, Nat.add_sub_cancel, lad0, leq0, lle0, lge0, llt0, lgt0, leq1, lle1, lge1, llt1, lgt1, lad1, lsu1, leq2, lle2, lge2, llt2, lgt2, lmu2, lmv2, lad2, lsu2, ldi2, leq3, lle3, lge3, llt3, lgt3, lmu3, lmv3, lad3, lsu3, ldi3, leq4, lle4, lge4, llt4, lgt4, lmu4, lmv4, lad4, lsu4, ldi4, leq5, lle5, lge5, llt5, lgt5, lmu5, lmv5, lad5, lsu5, ldi5, leq6, lle6, lge6, llt6, lgt6, lmu6, lmv6, lad6, lsu6, ldi6, leq8, lle8, lge8, llt8, lgt8, lmu8, lmv8, lad8, lsu8, ldi8, leq9, lle9, lge9, llt9, lgt9, lmu9, lmv9, lad9, lsu9, ldi9, leq10, lle10, lge10, llt10, lgt10, lmu10, lmv10, lad10, lsu10, ldi10, leq12, lle12, lge12, llt12, lgt12, lmu12, lmv12, lad12, lsu12, ldi12, leq20, lle20, lge20, llt20, lgt20, lmu20, lmv20, lad20, lsu20, ldi20, leq25, lle25, lge25, llt25, lgt25, lmu25, lmv25, lad25, lsu25, ldi25, leq30, lle30, lge30, llt30, lgt30, lmu30, lmv30, lad30, lsu30, ldi30, leq48, lle48, lge48, llt48, lgt48, lmu48, lmv48, lad48, lsu48, ldi48, leq50, lle50, lge50, llt50, lgt50, lmu50, lmv50, lad50, lsu50, ldi50, leq99, lle99, lge99, llt99, lgt99, lmu99, lmv99, lad99, lsu99, ldi99, leq100, lle100, lge100, llt100, lgt100, lmu100, lmv100, lad100, lsu100, ldi100, leq2000, lle2000, lge2000, llt2000, lgt2000, lmu2000, lmv2000, lad2000, lsu2000, ldi2000, lge2304, hlt, hb, h.a 22, ha22, e1, e2, cv22e, h1', h2, xin_nI, nI_cl, rem48, i480]
          exact st
      · have st := step False ⟨fun q => q.elim, fun q => q.elim hb (fun q => h1 q.1)⟩
        simp only [xbF] at st
        rw [e140_5]
        simp (disch := omega) only [e140_7, e140_10, e140_13, e140_14, e140_17, e140_17n, e140_18, e140_21, e140_23, e140_25, e140_26, e140_27, e140_28, e140_31, e140_31n, e140_32, e140_35, e140_37, e140_39, e140_40, e140_41, e140_42, e140_45, e140_47, e140_49, e140_50, e140_52, e140_54, e140_55, e140_58, e140_61, e140_62, e140_65, e140_66, e140_67, e140_70, e140_73, e140_74, xKv, xK0, xKx, xKHv, xKH0, xk_none, xk_i, xk_f, xk_l, xk_r, xk_n, xc_i, xc_f, xc_l, xc_d, xc_r, xc_n, xo_some, List.map_cons, List.map_nil, List.sum_cons, List.sum_nil, xnzn, xpn0, xpn1, xpnb, xpnn, i10, i00, true_imp_iff, false_imp_iff, not_true_eq_false, not_false_eq_true, true_and, and_true, implies_true, xnz0, xnz1, xnzb, xfz0, xfz1, xfzb, Option.isSome_some, if_true, if_false, xbF, xbT, and_false, false_and, Nat.zero_le, Nat.reduceEqDiff, Nat.reduceLeDiff, Nat.reduceAdd, Nat.reduceSub, xiT, xiF, pk_mul, nI_add, Nat.add_sub_cancel, lad0, leq0, lle0, lge0, llt0, lgt0, leq1, lle1, lge1, llt1, lgt1, lad1, lsu1, leq2, lle2, lge2, llt2, lgt2, lmu2, lmv2, lad2, lsu2, ldi2, leq3, lle3, lge3, llt3, lgt3, lmu3, lmv3, lad3, lsu3, ldi3, leq4, lle4, lge4, llt4, lgt4, lmu4, lmv4, lad4, lsu4, ldi4, leq5, lle5, lge5, llt5, lgt5, lmu5, lmv5, lad5, lsu5, ldi5, leq6, lle6, lge6, llt6, lgt6, lmu6, lmv6, lad6, lsu6, ldi6, leq8, lle8, lge8, llt8, lgt8, lmu8, lmv8, lad8, lsu8, ldi8, leq9, lle9, lge9, llt9, lgt9, lmu9, lmv9, lad9, lsu9, ldi9, leq10, lle10, lge10, llt10, lgt10, lmu10, lmv10, lad10, lsu10, ldi10, leq12, lle12, lge12, llt12, lgt12, lmu12, lmv12, lad12, lsu12, ldi12, leq20, lle20, lge20, llt20, lgt20, lmu20, lmv20, lad20, lsu20, ldi20, leq25, lle25, lge25, llt25, lgt25, lmu25, lmv25, lad25, lsu25, ldi25, leq30, lle30, lge30, llt30, lgt30, lmu30, lmv30, lad30, lsu30, ldi30, leq48, lle48, lge48, llt48, lgt48, lmu48, lmv48, lad48, lsu48, ldi48, leq50, lle50, lge50, llt50, lgt50, lmu50, lmv50, lad50, lsu50, ldi50, leq99, lle99, lge99, llt99, lgt99, lmu99, lmv99, lad99, lsu99, ldi99, leq100, lle100, lge100, llt100, lgt100, lmu100, lmv100, lad100, lsu100, ldi100, leq2000, lle2000, lge2000, llt2000, lgt2000, lmu2000, lmv2000, lad2000, lsu2000, ldi2000, lge2304, hlt, hb, h.a 22, ha22, e1, cv22e, h1, xin_nI, nI_cl, rem48, i480]
        exact st
end
