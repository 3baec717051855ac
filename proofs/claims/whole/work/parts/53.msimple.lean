/-! the model: questions of places, and the short calls -/
section
variable {κ : Nat → Nat} {R : xR → xH → Prop} {ad : Nat → Nat} {m : Nat} {ah0 ah : xH} {σ : xS} {th : Nat}
theorem sp_isStrip (h : MR ad m ah0 ah σ th) (hI : MI σ) {w s : Int32} : xm κ 96 [.ref m, .int w, .int s] ah R ↔ R (.inl (some (.int (xb (xin w (σ 3 0) ∧ xin s (σ 4 w.toNatClampNeg)))))) ah := by
  obtain ⟨f4, ha4, hf4⟩ := h.r4
  have hW := hI.2.2.2.1
  have hW2 := hI.2.2.2.2.1
  by_cases hw : xin w (σ 3 0)
  · obtain ⟨j, hj, rfl⟩ := xin_of (by omega) hw
    have h4 := hf4 j (by omega)
    have hs := (hW2 j (by omega)).1
    simp (disch := omega) only [en96, e96_0, e96_0n, e96_1, e96_2, e96_5, e96_8, e96_9, e96_10, e96_10n, e96_11, e96_14, e96_15, e96_16, e96_17, e96_18, e96_21, e96_24, e96_25, e96_28, e96_29, xKv, xK0, xKx, xKHv, xKH0, xk_none, xk_i, xk_f, xk_l, xk_r, xk_n, xc_i, xc_f, xc_l, xc_d, xc_r, xc_n, xo_some, List.map_cons, List.map_nil, List.sum_cons, List.sum_nil, i10, i00, true_imp_iff, false_imp_iff, not_true_eq_false, not_false_eq_true, true_and, and_true, implies_true, xnz0, xnz1, xnzb, xfz0, xfz1, xfzb, Option.isSome_some, if_true, if_false, xbF, xbT, and_false, false_and, Nat.zero_le, Nat.reduceLeDiff, Nat.reduceAdd, Nat.reduceSub, xiT, xiF, h.is, sp_isWall h hI, hw, h.a 4, ha4, xin_nI, nI_cl, h4, sp_isBtw1]
  · simp only [en96, e96_0, e96_0n, e96_1, e96_2, e96_5, e96_8, e96_9, e96_10, e96_10n, e96_11, e96_14, e96_15, e96_16, e96_17, e96_18, e96_21, e96_24, e96_25, e96_28, e96_29, xKv, xK0, xKx, xKHv, xKH0, xk_none, xk_i, xk_f, xk_l, xk_r, xk_n, xc_i, xc_f, xc_l, xc_d, xc_r, xc_n, xo_some, List.map_cons, List.map_nil, List.sum_cons, List.sum_nil, i10, i00, true_imp_iff, false_imp_iff, not_true_eq_false, not_false_eq_true, true_and, and_true, implies_true, xnz0, xnz1, xnzb, xfz0, xfz1, xfzb, Option.isSome_some, if_true, if_false, xbF, xbT, and_false, false_and, Nat.zero_le, Nat.reduceLeDiff, Nat.reduceAdd, Nat.reduceSub, xiT, xiF, h.is, sp_isWall h hI, hw]
theorem sp_isCoat (h : MR ad m ah0 ah σ th) (hI : MI σ) {w s c : Int32} : xm κ 97 [.ref m, .int w, .int s, .int c] ah R ↔ R (.inl (some (.int (xb ((xin w (σ 3 0) ∧ xin s (σ 4 w.toNatClampNeg)) ∧ xin c (σ 8 (12 * w.toNatClampNeg + s.toNatClampNeg))))))) ah := by
  obtain ⟨f8, ha8, hf8⟩ := h.r8
  have hW := hI.2.2.2.1
  have hW2 := hI.2.2.2.2.1
  have hM := hI.2.2.2.2.2.2.1
  by_cases hw : xin w (σ 3 0) ∧ xin s (σ 4 w.toNatClampNeg)
  · obtain ⟨hw1, hw2⟩ := hw
    obtain ⟨j, hj, rfl⟩ := xin_of (by omega) hw1
    have hs := (hW2 j (by omega)).1
    rw [nI_cl (by omega)] at hw2
    obtain ⟨i, hi, rfl⟩ := xin_of (by omega) hw2
    have h8 := hf8 (12 * j + i) (by omega)
    have hm := (hM (12 * j + i) (by omega)).2
    simp (disch := omega) only [en97, e97_0, e97_0n, e97_1, e97_2, e97_3, e97_6, e97_9, e97_10, e97_11, e97_11n, e97_12, e97_15, e97_17, e97_18, e97_19, e97_20, e97_21, e97_22, e97_23, e97_24, e97_27, e97_30, e97_31, e97_34, e97_35, xKv, xK0, xKx, xKHv, xKH0, xk_none, xk_i, xk_f, xk_l, xk_r, xk_n, xc_i, xc_f, xc_l, xc_d, xc_r, xc_n, xo_some, List.map_cons, List.map_nil, List.sum_cons, List.sum_nil, i10, i00, true_imp_iff, false_imp_iff, not_true_eq_false, not_false_eq_true, true_and, and_true, implies_true, xnz0, xnz1, xnzb, xfz0, xfz1, xfzb, Option.isSome_some, if_true, if_false, xbF, xbT, and_false, false_and, Nat.zero_le, Nat.reduceLeDiff, Nat.reduceAdd, Nat.reduceSub, xiT, xiF, c12, c6, c8, pk_mul, nI_add, nI_1, h.is, sp_isStrip h hI, hw1, hw2, h.a 8, ha8, xin_nI, nI_cl, h8, sp_isBtw1]
  · simp only [en97, e97_0, e97_0n, e97_1, e97_2, e97_3, e97_6, e97_9, e97_10, e97_11, e97_11n, e97_12, e97_15, e97_17, e97_18, e97_19, e97_20, e97_21, e97_22, e97_23, e97_24, e97_27, e97_30, e97_31, e97_34, e97_35, xKv, xK0, xKx, xKHv, xKH0, xk_none, xk_i, xk_f, xk_l, xk_r, xk_n, xc_i, xc_f, xc_l, xc_d, xc_r, xc_n, xo_some, List.map_cons, List.map_nil, List.sum_cons, List.sum_nil, i10, i00, true_imp_iff, false_imp_iff, not_true_eq_false, not_false_eq_true, true_and, and_true, implies_true, xnz0, xnz1, xnzb, xfz0, xfz1, xfzb, Option.isSome_some, if_true, if_false, xbF, xbT, and_false, false_and, Nat.zero_le, Nat.reduceLeDiff, Nat.reduceAdd, Nat.reduceSub, xiT, xiF, h.is, sp_isStrip h hI, hw]
theorem sp_isProfile (h : MR ad m ah0 ah σ th) (hI : MI σ) {p : Int32} : xm κ 122 [.ref m, .int p] ah R ↔ R (.inl (some (.int (xb (xin p (σ 16 0)))))) ah := by
  have hP := hI.2.2.2.2.2.2.2.2.1
  simp (disch := omega) only [en122, e122_0, e122_1, e122_2, e122_2n, e122_3, e122_6, e122_7, e122_8, e122_11, xKv, xK0, xKx, xKHv, xKH0, xk_none, xk_i, xk_f, xk_l, xk_r, xk_n, xc_i, xc_f, xc_l, xc_d, xc_r, xc_n, xo_some, List.map_cons, List.map_nil, List.sum_cons, List.sum_nil, i10, i00, true_imp_iff, false_imp_iff, not_true_eq_false, not_false_eq_true, true_and, and_true, implies_true, xnz0, xnz1, xnzb, xfz0, xfz1, xfzb, Option.isSome_some, if_true, if_false, xbF, xbT, and_false, false_and, Nat.zero_le, Nat.reduceLeDiff, Nat.reduceAdd, Nat.reduceSub, xiT, xiF, h.s 16, sp_isBtw1]
theorem sp_isPatch (h : MR ad m ah0 ah σ th) (hI : MI σ) {p : Int32} : xm κ 136 [.ref m, .int p] ah R ↔ R (.inl (some (.int (xb (xin p (σ 20 0)))))) ah := by
  have hP := hI.2.2.2.2.2.2.2.2.2.2.2.2.2.2.1
  simp (disch := omega) only [en136, e136_0, e136_1, e136_2, e136_2n, e136_3, e136_6, e136_7, e136_8, e136_11, xKv, xK0, xKx, xKHv, xKH0, xk_none, xk_i, xk_f, xk_l, xk_r, xk_n, xc_i, xc_f, xc_l, xc_d, xc_r, xc_n, xo_some, List.map_cons, List.map_nil, List.sum_cons, List.sum_nil, i10, i00, true_imp_iff, false_imp_iff, not_true_eq_false, not_false_eq_true, true_and, and_true, implies_true, xnz0, xnz1, xnzb, xfz0, xfz1, xfzb, Option.isSome_some, if_true, if_false, xbF, xbT, and_false, false_and, Nat.zero_le, Nat.reduceLeDiff, Nat.reduceAdd, Nat.reduceSub, xiT, xiF, h.s 20, sp_isBtw1]
theorem sp_isPigment {p : Int32} : xm κ 132 [.int p] ah R ↔ R (.inl (some (.int (xb (xin p 10))))) ah := by
  simp (disch := omega) only [en132, e132_0, e132_1, e132_2, e132_4, e132_7, xKv, xK0, xKx, xKHv, xKH0, xk_none, xk_i, xk_f, xk_l, xk_r, xk_n, xc_i, xc_f, xc_l, xc_d, xc_r, xc_n, xo_some, List.map_cons, List.map_nil, List.sum_cons, List.sum_nil, i10, i00, true_imp_iff, false_imp_iff, not_true_eq_false, not_false_eq_true, true_and, and_true, implies_true, xnz0, xnz1, xnzb, xfz0, xfz1, xfzb, Option.isSome_some, if_true, if_false, xbF, xbT, and_false, false_and, Nat.zero_le, Nat.reduceLeDiff, Nat.reduceAdd, Nat.reduceSub, xiT, xiF, sp_isBtw, xrg_0]
theorem sp_isReading {p : Int32} : xm κ 142 [.int p] ah R ↔ R (.inl (some (.int (xb (xin p 100))))) ah := by
  simp (disch := omega) only [en142, e142_0, e142_1, e142_2, e142_4, e142_7, xKv, xK0, xKx, xKHv, xKH0, xk_none, xk_i, xk_f, xk_l, xk_r, xk_n, xc_i, xc_f, xc_l, xc_d, xc_r, xc_n, xo_some, List.map_cons, List.map_nil, List.sum_cons, List.sum_nil, i10, i00, true_imp_iff, false_imp_iff, not_true_eq_false, not_false_eq_true, true_and, and_true, implies_true, xnz0, xnz1, xnzb, xfz0, xfz1, xfzb, Option.isSome_some, if_true, if_false, xbF, xbT, and_false, false_and, Nat.zero_le, Nat.reduceLeDiff, Nat.reduceAdd, Nat.reduceSub, xiT, xiF, sp_isBtw, xrg_0]
theorem sp_areLong {a b : Int32} : xm κ 127 [.int a, .int b] ah R ↔ R (.inl (some (.int (xb (xrg a 1 100000 ∧ xrg b 1 100000))))) ah := by
  by_cases ha : xrg a 1 100000 <;> simp (disch := omega) only [en127, e127_0, e127_1, e127_2, e127_4, e127_7, e127_10, e127_11, e127_12, e127_14, e127_17, e127_20, e127_21, e127_24, e127_25, xKv, xK0, xKx, xKHv, xKH0, xk_none, xk_i, xk_f, xk_l, xk_r, xk_n, xc_i, xc_f, xc_l, xc_d, xc_r, xc_n, xo_some, List.map_cons, List.map_nil, List.sum_cons, List.sum_nil, i10, i00, true_imp_iff, false_imp_iff, not_true_eq_false, not_false_eq_true, true_and, and_true, implies_true, xnz0, xnz1, xnzb, xfz0, xfz1, xfzb, Option.isSome_some, if_true, if_false, xbF, xbT, and_false, false_and, Nat.zero_le, Nat.reduceLeDiff, Nat.reduceAdd, Nat.reduceSub, xiT, xiF, sp_isBtw, ha]
/-! the short calls: what they throw (t), answer (v), and make of the state (s) -/
noncomputable def t_wall (σ : xS) (a b : Int32) : Nat := xi (xrg a 1 12 ∧ xin b 3) (xi (σ 3 0 = 10) 2 0) 1
noncomputable def s_wall (σ : xS) (a b : Int32) : xS := xi (t_wall σ a b = 0) (su (su (su σ 4 (σ 3 0) a.toNatClampNeg) 5 (σ 3 0) b.toNatClampNeg) 3 0 (σ 3 0 + 1)) σ
noncomputable def v_wall (σ : xS) (a b : Int32) : Int32 := xi (t_wall σ a b = 0) (nI (σ 3 0)) 0
theorem sp_m_wall (h : MR ad m ah0 ah σ th) (hI : MI σ) {a b : Int32} (hR : ∀ ah', MR ad m ah0 ah' (s_wall σ a b) (t_wall σ a b) → R (.inl (some (.int (v_wall σ a b)))) ah') : xm κ 103 [.ref m, .int a, .int b] ah R := by
  have hW := hI.2.2.2.1
  have g0 := h.wt 0 (x := 0) rfl
  have g1 := h.wt 1 (x := 1) rfl
  have g2 := h.wt 2 (x := 2) rfl
  by_cases ha : xrg a 1 12
  · by_cases hb : xin b 3
    · by_cases hW10 : σ 3 0 = 10
      · have e : t_wall σ a b = 2 := by unfold t_wall; rw [xi_t ⟨ha, hb⟩, xi_t hW10]
        simp (disch := omega) only [s_wall, v_wall, e, xKv, xK0, xKx, xKHv, xKH0, xk_none, xk_i, xk_f, xk_l, xk_r, xk_n, xc_i, xc_f, xc_l, xc_d, xc_r, xc_n, xo_some, List.map_cons, List.map_nil, List.sum_cons, List.sum_nil, i10, i00, true_imp_iff, false_imp_iff, not_true_eq_false, not_false_eq_true, true_and, and_true, implies_true, xnz0, xnz1, xnzb, xfz0, xfz1, xfzb, Option.isSome_some, if_true, if_false, xbF, xbT, and_false, false_and, Nat.zero_le, Nat.reduceLeDiff, Nat.reduceAdd, Nat.reduceSub, xiT, xiF] at hR
        simp (disch := omega) only [en103, e103_0, e103_1, e103_2, e103_4, e103_7, e103_10, e103_11, e103_12, e103_13, e103_16, e103_19, e103_20, e103_23, e103_24, e103_25, e103_25n, e103_26, e103_27, e103_30, e103_31, e103_34, e103_34n, e103_35, e103_38, e103_40, e103_43, e103_44, e103_47, e103_48, e103_51, e103_54, e103_55, e103_56, e103_56n, e103_57, e103_60, e103_60n, e103_61, e103_64, e103_65, e103_66, e103_66n, e103_67, e103_70, e103_70n, e103_71, e103_74, e103_75, e103_76, e103_76n, e103_77, e103_77i, e103_78, e103_81, e103_82, e103_83, e103_86, e103_86n, e103_87, e103_90, e103_91, e103_92, xKv, xK0, xKx, xKHv, xKH0, xk_none, xk_i, xk_f, xk_l, xk_r, xk_n, xc_i, xc_f, xc_l, xc_d, xc_r, xc_n, xo_some, List.map_cons, List.map_nil, List.sum_cons, List.sum_nil, i10, i00, true_imp_iff, false_imp_iff, not_true_eq_false, not_false_eq_true, true_and, and_true, implies_true, xnz0, xnz1, xnzb, xfz0, xfz1, xfzb, Option.isSome_some, if_true, if_false, xbF, xbT, and_false, false_and, Nat.zero_le, Nat.reduceLeDiff, Nat.reduceAdd, Nat.reduceSub, xiT, xiF, h.is, h.s 3, sp_isBtw, xrg_0, ha, hb, hW10, sp_goes h.t]
        sorry
      · sorry
    · sorry
  · sorry
end
