/-! the law's wrappers: what the class gives or throws, as numbers (printed by wip/gen/gen53.py) -/
def xbl (v : Int32) : Int64 := if v = 0 then 0 else 1
theorem xal_of {ah : xH} {a N : Nat} {f : Nat → Int64} (h : ah a = some (.inl (3, N, .inr (.inl f)))) : xal ah a = some (N, f) := by
  unfold xal; rw [h]; rfl
theorem xad_of {ah : xH} {a N : Nat} {f : Nat → UInt64} (h : ah a = some (.inl (4, N, .inr (.inr (.inr (.inl f)))))) : xad ah a = some (N, f) := by
  unfold xad; rw [h]; rfl
theorem vp01 : vp_in 0 1 = True := xin_nI (i := 0) (N := 1) (by decide) (by decide)
theorem vpL0 {f : Nat → Int64} {v : Int64} : vp_updL f (0 : Int32).toNatClampNeg v 0 = v := by
  unfold vp_updL; rw [if_pos (by decide)]
theorem vpD0 {f : Nat → UInt64} {v : UInt64} : vf_upd f (0 : Int32).toNatClampNeg v 0 = v := by
  unfold vf_upd; rw [if_pos (by decide)]
section
variable {κ ad : Nat → Nat} {m o d x : Nat} {A τ σ : xS} {ah : xH} {th : Nat} {R : xR → xH → Prop}
theorem sp_L_wall (hK : KI κ) (hS : KS κ) (g : G2 κ ad m o d x A τ σ σ ah th) (hI : MI σ) (hN : NJ σ) (hL : LK σ τ) (hn : τ 33 0 < 512) {a : Int32} {b : Int32} (hR : ∀ A' τ' ah', G2 κ ad m o d x A' τ' σ (s_wall σ a b) ah' th → LK (s_wall σ a b) τ' → τ' 33 0 ≤ τ 33 0 + 1 → (t_wall σ a b = 0 → ∃ f, ah' o = some (.inl (3, 1, .inr (.inl f))) ∧ f 0 = (v_wall σ a b).toInt64) → R (.inl (some (.int (nI (t_wall σ a b))))) ah') : xm κ 193 [.ref x, .int a, .int b, .ref o] ah R := by
  have ex := g.2.2.1
  subst ex
  have hs : ¬ t_wall σ a b = 0 → s_wall σ a b = σ := fun h => by
    unfold s_wall
    exact xi_f h
  rw [en193]
  simp (disch := omega) only [e193_0, e193_0n, e193_1, e193_2, e193_2n, e193_3, e193_4, xKv, xK0, xKx, xKHv, xKH0, xk_none, xk_i, xk_f, xk_l, xk_r, xk_n, xc_i, xc_f, xc_l, xc_d, xc_r, xc_n, xo_some, List.map_cons, List.map_nil, List.sum_cons, List.sum_nil, xnzn, xpn0, xpn1, xpnb, xpnn, i10, i00, true_imp_iff, false_imp_iff, not_true_eq_false, not_false_eq_true, true_and, and_true, implies_true, xnz0, xnz1, xnzb, xfz0, xfz1, xfzb, Option.isSome_some, if_true, if_false, xbF, xbT, and_false, false_and, Nat.zero_le, Nat.reduceEqDiff, Nat.reduceLeDiff, Nat.reduceAdd, Nat.reduceSub, xiT, xiF]
  rw [e193_5]
  refine ⟨⟨show (1 + (1 + 0) : Nat) ≤ 8 from by decide, ⟨_, g.2.1.x⟩, by decide, by decide⟩, sp_c_wall g.2.1 hI hN.2.2 hL (fun ht A' τ' ah' c1 l1 n1 e1 => ?_) (fun ht => ?_) (fun ht => ?_)⟩
  · have g1 := g.cl c1 e1
    show xW _ _ _ _
    obtain ⟨f, hf⟩ := g1.2.2.2.1
    have fo : xal ah' o = some (1, f) := xal_of hf
    simp (disch := omega) only [e193_8, e193_9, e193_10, e193_13, e193_13n, e193_15, e193_16, e193_17, e193_17n, e193_19, e193_20, e193_21, e193_22, xKv, xK0, xKx, xKHv, xKH0, xk_none, xk_i, xk_f, xk_l, xk_r, xk_n, xc_i, xc_f, xc_l, xc_d, xc_r, xc_n, xo_some, List.map_cons, List.map_nil, List.sum_cons, List.sum_nil, xnzn, xpn0, xpn1, xpnb, xpnn, i10, i00, true_imp_iff, false_imp_iff, not_true_eq_false, not_false_eq_true, true_and, and_true, implies_true, xnz0, xnz1, xnzb, xfz0, xfz1, xfzb, Option.isSome_some, if_true, if_false, xbF, xbT, and_false, false_and, Nat.zero_le, Nat.reduceEqDiff, Nat.reduceLeDiff, Nat.reduceAdd, Nat.reduceSub, xiT, xiF, fo, vp01]
    have := hR _ _ _ (g1.out (vp_updL f (0 : Int32).toNatClampNeg (v_wall σ a b).toInt64)) l1 n1 (fun _ => ⟨_, xup_self _ _ _, vpL0⟩)
    rw [ht] at this
    exact this
  · have e9 := hs (by rw [ht]; decide)
    have := hR A τ ah (g.st rfl e9) (by rw [e9]; exact hL) (by omega) (fun q => absurd (ht.symm.trans q) (by decide))
    rw [ht] at this
    refine ⟨13, rfl, fun q => ?_⟩
    simp (disch := omega) only [e193_13, e193_13n, e193_15, e193_16, xKv, xK0, xKx, xKHv, xKH0, xk_none, xk_i, xk_f, xk_l, xk_r, xk_n, xc_i, xc_f, xc_l, xc_d, xc_r, xc_n, xo_some, List.map_cons, List.map_nil, List.sum_cons, List.sum_nil, xnzn, xpn0, xpn1, xpnb, xpnn, i10, i00, true_imp_iff, false_imp_iff, not_true_eq_false, not_false_eq_true, true_and, and_true, implies_true, xnz0, xnz1, xnzb, xfz0, xfz1, xfzb, Option.isSome_some, if_true, if_false, xbF, xbT, and_false, false_and, Nat.zero_le, Nat.reduceEqDiff, Nat.reduceLeDiff, Nat.reduceAdd, Nat.reduceSub, xiT, xiF]
    exact this
  · have e9 := hs (by rw [ht]; decide)
    have := hR A τ ah (g.st rfl e9) (by rw [e9]; exact hL) (by omega) (fun q => absurd (ht.symm.trans q) (by decide))
    rw [ht] at this
    refine ⟨17, rfl, fun q => ?_⟩
    simp (disch := omega) only [e193_17, e193_17n, e193_19, e193_20, xKv, xK0, xKx, xKHv, xKH0, xk_none, xk_i, xk_f, xk_l, xk_r, xk_n, xc_i, xc_f, xc_l, xc_d, xc_r, xc_n, xo_some, List.map_cons, List.map_nil, List.sum_cons, List.sum_nil, xnzn, xpn0, xpn1, xpnb, xpnn, i10, i00, true_imp_iff, false_imp_iff, not_true_eq_false, not_false_eq_true, true_and, and_true, implies_true, xnz0, xnz1, xnzb, xfz0, xfz1, xfzb, Option.isSome_some, if_true, if_false, xbF, xbT, and_false, false_and, Nat.zero_le, Nat.reduceEqDiff, Nat.reduceLeDiff, Nat.reduceAdd, Nat.reduceSub, xiT, xiF]
    exact this
theorem sp_L_weather (hK : KI κ) (hS : KS κ) (g : G2 κ ad m o d x A τ σ σ ah th) (hI : MI σ) (hN : NJ σ) (hL : LK σ τ) (hn : τ 33 0 < 512) {a : Int32} {b : Int32} (hR : ∀ A' τ' ah', G2 κ ad m o d x A' τ' σ (s_weather σ a b) ah' th → LK (s_weather σ a b) τ' → τ' 33 0 ≤ τ 33 0 + 1 → (t_weather a b = 0 → True) → R (.inl (some (.int (nI (t_weather a b))))) ah') : xm κ 194 [.ref x, .int a, .int b] ah R := by
  have ex := g.2.2.1
  subst ex
  have hs : ¬ t_weather a b = 0 → s_weather σ a b = σ := fun h => by
    unfold s_weather
    exact xi_f h
  rw [en194]
  simp (disch := omega) only [e194_0, e194_0n, e194_1, e194_2, xKv, xK0, xKx, xKHv, xKH0, xk_none, xk_i, xk_f, xk_l, xk_r, xk_n, xc_i, xc_f, xc_l, xc_d, xc_r, xc_n, xo_some, List.map_cons, List.map_nil, List.sum_cons, List.sum_nil, xnzn, xpn0, xpn1, xpnb, xpnn, i10, i00, true_imp_iff, false_imp_iff, not_true_eq_false, not_false_eq_true, true_and, and_true, implies_true, xnz0, xnz1, xnzb, xfz0, xfz1, xfzb, Option.isSome_some, if_true, if_false, xbF, xbT, and_false, false_and, Nat.zero_le, Nat.reduceEqDiff, Nat.reduceLeDiff, Nat.reduceAdd, Nat.reduceSub, xiT, xiF]
  rw [e194_3]
  refine ⟨⟨by decide, ⟨_, g.2.1.x⟩, by decide, by decide⟩, sp_c_weather g.2.1 hL (fun ht A' τ' ah' c1 l1 n1 e1 => ?_) (fun ht => ?_)⟩
  · have g1 := g.cl c1 e1
    show xW _ _ _ _
    simp (disch := omega) only [e194_6, e194_9, e194_9n, e194_10, e194_11, e194_12, e194_13, xKv, xK0, xKx, xKHv, xKH0, xk_none, xk_i, xk_f, xk_l, xk_r, xk_n, xc_i, xc_f, xc_l, xc_d, xc_r, xc_n, xo_some, List.map_cons, List.map_nil, List.sum_cons, List.sum_nil, xnzn, xpn0, xpn1, xpnb, xpnn, i10, i00, true_imp_iff, false_imp_iff, not_true_eq_false, not_false_eq_true, true_and, and_true, implies_true, xnz0, xnz1, xnzb, xfz0, xfz1, xfzb, Option.isSome_some, if_true, if_false, xbF, xbT, and_false, false_and, Nat.zero_le, Nat.reduceEqDiff, Nat.reduceLeDiff, Nat.reduceAdd, Nat.reduceSub, xiT, xiF]
    have := hR _ _ _ g1 l1 n1 (fun _ => trivial)
    rw [ht] at this
    exact this
  · have e9 := hs (by rw [ht]; decide)
    have := hR A τ ah (g.st rfl e9) (by rw [e9]; exact hL) (by omega) (fun q => absurd (ht.symm.trans q) (by decide))
    rw [ht] at this
    refine ⟨9, rfl, fun q => ?_⟩
    simp (disch := omega) only [e194_9, e194_9n, e194_10, e194_11, xKv, xK0, xKx, xKHv, xKH0, xk_none, xk_i, xk_f, xk_l, xk_r, xk_n, xc_i, xc_f, xc_l, xc_d, xc_r, xc_n, xo_some, List.map_cons, List.map_nil, List.sum_cons, List.sum_nil, xnzn, xpn0, xpn1, xpnb, xpnn, i10, i00, true_imp_iff, false_imp_iff, not_true_eq_false, not_false_eq_true, true_and, and_true, implies_true, xnz0, xnz1, xnzb, xfz0, xfz1, xfzb, Option.isSome_some, if_true, if_false, xbF, xbT, and_false, false_and, Nat.zero_le, Nat.reduceEqDiff, Nat.reduceLeDiff, Nat.reduceAdd, Nat.reduceSub, xiT, xiF]
    exact this
theorem sp_L_damp (hK : KI κ) (hS : KS κ) (g : G2 κ ad m o d x A τ σ σ ah th) (hI : MI σ) (hN : NJ σ) (hL : LK σ τ) (hn : τ 33 0 < 512) {a : Int32} {b : Int32} (hR : ∀ A' τ' ah', G2 κ ad m o d x A' τ' σ (s_damp σ a b) ah' th → LK (s_damp σ a b) τ' → τ' 33 0 ≤ τ 33 0 + 1 → (t_damp σ a b = 0 → ∃ f, ah' o = some (.inl (3, 1, .inr (.inl f))) ∧ f 0 = (v_damp σ a b).toInt64) → R (.inl (some (.int (nI (t_damp σ a b))))) ah') : xm κ 195 [.ref x, .int a, .int b, .ref o] ah R := by
  have ex := g.2.2.1
  subst ex
  have hs : ¬ t_damp σ a b = 0 → s_damp σ a b = σ := fun h => by
    unfold s_damp
    exact xi_f h
  rw [en195]
  simp (disch := omega) only [e195_0, e195_0n, e195_1, e195_2, e195_2n, e195_3, e195_4, xKv, xK0, xKx, xKHv, xKH0, xk_none, xk_i, xk_f, xk_l, xk_r, xk_n, xc_i, xc_f, xc_l, xc_d, xc_r, xc_n, xo_some, List.map_cons, List.map_nil, List.sum_cons, List.sum_nil, xnzn, xpn0, xpn1, xpnb, xpnn, i10, i00, true_imp_iff, false_imp_iff, not_true_eq_false, not_false_eq_true, true_and, and_true, implies_true, xnz0, xnz1, xnzb, xfz0, xfz1, xfzb, Option.isSome_some, if_true, if_false, xbF, xbT, and_false, false_and, Nat.zero_le, Nat.reduceEqDiff, Nat.reduceLeDiff, Nat.reduceAdd, Nat.reduceSub, xiT, xiF]
  rw [e195_5]
  refine ⟨⟨show (1 + (1 + 0) : Nat) ≤ 8 from by decide, ⟨_, g.2.1.x⟩, by decide, by decide⟩, sp_c_damp g.2.1 hI hL (fun ht A' τ' ah' c1 l1 n1 e1 => ?_) (fun ht => ?_) (fun ht => ?_)⟩
  · have g1 := g.cl c1 e1
    show xW _ _ _ _
    obtain ⟨f, hf⟩ := g1.2.2.2.1
    have fo : xal ah' o = some (1, f) := xal_of hf
    simp (disch := omega) only [e195_8, e195_9, e195_10, e195_13, e195_13n, e195_15, e195_16, e195_17, e195_17n, e195_19, e195_20, e195_21, e195_22, xKv, xK0, xKx, xKHv, xKH0, xk_none, xk_i, xk_f, xk_l, xk_r, xk_n, xc_i, xc_f, xc_l, xc_d, xc_r, xc_n, xo_some, List.map_cons, List.map_nil, List.sum_cons, List.sum_nil, xnzn, xpn0, xpn1, xpnb, xpnn, i10, i00, true_imp_iff, false_imp_iff, not_true_eq_false, not_false_eq_true, true_and, and_true, implies_true, xnz0, xnz1, xnzb, xfz0, xfz1, xfzb, Option.isSome_some, if_true, if_false, xbF, xbT, and_false, false_and, Nat.zero_le, Nat.reduceEqDiff, Nat.reduceLeDiff, Nat.reduceAdd, Nat.reduceSub, xiT, xiF, fo, vp01]
    have := hR _ _ _ (g1.out (vp_updL f (0 : Int32).toNatClampNeg (v_damp σ a b).toInt64)) l1 n1 (fun _ => ⟨_, xup_self _ _ _, vpL0⟩)
    rw [ht] at this
    exact this
  · have e9 := hs (by rw [ht]; decide)
    have := hR A τ ah (g.st rfl e9) (by rw [e9]; exact hL) (by omega) (fun q => absurd (ht.symm.trans q) (by decide))
    rw [ht] at this
    refine ⟨13, rfl, fun q => ?_⟩
    simp (disch := omega) only [e195_13, e195_13n, e195_15, e195_16, xKv, xK0, xKx, xKHv, xKH0, xk_none, xk_i, xk_f, xk_l, xk_r, xk_n, xc_i, xc_f, xc_l, xc_d, xc_r, xc_n, xo_some, List.map_cons, List.map_nil, List.sum_cons, List.sum_nil, xnzn, xpn0, xpn1, xpnb, xpnn, i10, i00, true_imp_iff, false_imp_iff, not_true_eq_false, not_false_eq_true, true_and, and_true, implies_true, xnz0, xnz1, xnzb, xfz0, xfz1, xfzb, Option.isSome_some, if_true, if_false, xbF, xbT, and_false, false_and, Nat.zero_le, Nat.reduceEqDiff, Nat.reduceLeDiff, Nat.reduceAdd, Nat.reduceSub, xiT, xiF]
    exact this
  · have e9 := hs (by rw [ht]; decide)
    have := hR A τ ah (g.st rfl e9) (by rw [e9]; exact hL) (by omega) (fun q => absurd (ht.symm.trans q) (by decide))
    rw [ht] at this
    refine ⟨17, rfl, fun q => ?_⟩
    simp (disch := omega) only [e195_17, e195_17n, e195_19, e195_20, xKv, xK0, xKx, xKHv, xKH0, xk_none, xk_i, xk_f, xk_l, xk_r, xk_n, xc_i, xc_f, xc_l, xc_d, xc_r, xc_n, xo_some, List.map_cons, List.map_nil, List.sum_cons, List.sum_nil, xnzn, xpn0, xpn1, xpnb, xpnn, i10, i00, true_imp_iff, false_imp_iff, not_true_eq_false, not_false_eq_true, true_and, and_true, implies_true, xnz0, xnz1, xnzb, xfz0, xfz1, xfzb, Option.isSome_some, if_true, if_false, xbF, xbT, and_false, false_and, Nat.zero_le, Nat.reduceEqDiff, Nat.reduceLeDiff, Nat.reduceAdd, Nat.reduceSub, xiT, xiF]
    exact this
theorem sp_L_joint (hK : KI κ) (hS : KS κ) (g : G2 κ ad m o d x A τ σ σ ah th) (hI : MI σ) (hN : NJ σ) (hL : LK σ τ) (hn : τ 33 0 < 512) {a : Int32} {b : Int32} (hR : ∀ A' τ' ah', G2 κ ad m o d x A' τ' σ (s_joint σ a b) ah' th → LK (s_joint σ a b) τ' → τ' 33 0 ≤ τ 33 0 + 1 → (t_joint σ a b = 0 → ∃ f, ah' o = some (.inl (3, 1, .inr (.inl f))) ∧ f 0 = xbl (v_joint σ a b)) → R (.inl (some (.int (nI (t_joint σ a b))))) ah') : xm κ 196 [.ref x, .int a, .int b, .ref o] ah R := by
  have ex := g.2.2.1
  subst ex
  have hs : ¬ t_joint σ a b = 0 → s_joint σ a b = σ := fun h => by
    unfold s_joint
    exact xi_f h
  rw [en196]
  simp (disch := omega) only [e196_0, e196_0n, e196_1, e196_2, e196_2n, e196_3, e196_4, xKv, xK0, xKx, xKHv, xKH0, xk_none, xk_i, xk_f, xk_l, xk_r, xk_n, xc_i, xc_f, xc_l, xc_d, xc_r, xc_n, xo_some, List.map_cons, List.map_nil, List.sum_cons, List.sum_nil, xnzn, xpn0, xpn1, xpnb, xpnn, i10, i00, true_imp_iff, false_imp_iff, not_true_eq_false, not_false_eq_true, true_and, and_true, implies_true, xnz0, xnz1, xnzb, xfz0, xfz1, xfzb, Option.isSome_some, if_true, if_false, xbF, xbT, and_false, false_and, Nat.zero_le, Nat.reduceEqDiff, Nat.reduceLeDiff, Nat.reduceAdd, Nat.reduceSub, xiT, xiF]
  rw [e196_5]
  refine ⟨⟨show (1 + (1 + 0) : Nat) ≤ 8 from by decide, ⟨_, g.2.1.x⟩, by decide, by decide⟩, sp_c_joint g.2.1 hI hL (fun ht A' τ' ah' c1 l1 n1 e1 => ?_) (fun ht => ?_)⟩
  · have g1 := g.cl c1 e1
    show xW _ _ _ _
    obtain ⟨f, hf⟩ := g1.2.2.2.1
    have fo : xal ah' o = some (1, f) := xal_of hf
    by_cases hz : v_joint σ a b = 0
    · simp (disch := omega) only [e196_8, e196_11, e196_12, e196_15, e196_16, e196_17, e196_20, e196_20n, e196_22, e196_23, e196_24, e196_25, xKv, xK0, xKx, xKHv, xKH0, xk_none, xk_i, xk_f, xk_l, xk_r, xk_n, xc_i, xc_f, xc_l, xc_d, xc_r, xc_n, xo_some, List.map_cons, List.map_nil, List.sum_cons, List.sum_nil, xnzn, xpn0, xpn1, xpnb, xpnn, i10, i00, true_imp_iff, false_imp_iff, not_true_eq_false, not_false_eq_true, true_and, and_true, implies_true, xnz0, xnz1, xnzb, xfz0, xfz1, xfzb, Option.isSome_some, if_true, if_false, xbF, xbT, and_false, false_and, Nat.zero_le, Nat.reduceEqDiff, Nat.reduceLeDiff, Nat.reduceAdd, Nat.reduceSub, xiT, xiF, fo, vp01, hz]
      have := hR _ _ _ (g1.out (vp_updL f (0 : Int32).toNatClampNeg 0)) l1 n1 (fun _ => ⟨_, xup_self _ _ _, vpL0.trans (by unfold xbl; exact (if_pos hz).symm)⟩)
      rw [ht] at this
      exact this
    · simp (disch := omega) only [e196_8, e196_11, e196_12, e196_15, e196_16, e196_17, e196_20, e196_20n, e196_22, e196_23, e196_24, e196_25, xKv, xK0, xKx, xKHv, xKH0, xk_none, xk_i, xk_f, xk_l, xk_r, xk_n, xc_i, xc_f, xc_l, xc_d, xc_r, xc_n, xo_some, List.map_cons, List.map_nil, List.sum_cons, List.sum_nil, xnzn, xpn0, xpn1, xpnb, xpnn, i10, i00, true_imp_iff, false_imp_iff, not_true_eq_false, not_false_eq_true, true_and, and_true, implies_true, xnz0, xnz1, xnzb, xfz0, xfz1, xfzb, Option.isSome_some, if_true, if_false, xbF, xbT, and_false, false_and, Nat.zero_le, Nat.reduceEqDiff, Nat.reduceLeDiff, Nat.reduceAdd, Nat.reduceSub, xiT, xiF, fo, vp01, hz]
      have := hR _ _ _ (g1.out (vp_updL f (0 : Int32).toNatClampNeg 1)) l1 n1 (fun _ => ⟨_, xup_self _ _ _, vpL0.trans (by unfold xbl; exact (if_neg hz).symm)⟩)
      rw [ht] at this
      exact this
  · have e9 := hs (by rw [ht]; decide)
    have := hR A τ ah (g.st rfl e9) (by rw [e9]; exact hL) (by omega) (fun q => absurd (ht.symm.trans q) (by decide))
    rw [ht] at this
    refine ⟨20, rfl, fun q => ?_⟩
    simp (disch := omega) only [e196_20, e196_20n, e196_22, e196_23, xKv, xK0, xKx, xKHv, xKH0, xk_none, xk_i, xk_f, xk_l, xk_r, xk_n, xc_i, xc_f, xc_l, xc_d, xc_r, xc_n, xo_some, List.map_cons, List.map_nil, List.sum_cons, List.sum_nil, xnzn, xpn0, xpn1, xpnb, xpnn, i10, i00, true_imp_iff, false_imp_iff, not_true_eq_false, not_false_eq_true, true_and, and_true, implies_true, xnz0, xnz1, xnzb, xfz0, xfz1, xfzb, Option.isSome_some, if_true, if_false, xbF, xbT, and_false, false_and, Nat.zero_le, Nat.reduceEqDiff, Nat.reduceLeDiff, Nat.reduceAdd, Nat.reduceSub, xiT, xiF]
    exact this
theorem sp_L_coat (hK : KI κ) (hS : KS κ) (g : G2 κ ad m o d x A τ σ σ ah th) (hI : MI σ) (hN : NJ σ) (hL : LK σ τ) (hn : τ 33 0 < 512) {a : Int32} {b : Int32} {c : Int32} {p : Int32} {q : Int32} (hR : ∀ A' τ' ah', G2 κ ad m o d x A' τ' σ (s_coat σ a b c p q) ah' th → LK (s_coat σ a b c p q) τ' → τ' 33 0 ≤ τ 33 0 + 1 → (t_coat σ a b c p q = 0 → ∃ f, ah' o = some (.inl (3, 1, .inr (.inl f))) ∧ f 0 = (v_coat σ a b c p q).toInt64) → R (.inl (some (.int (nI (t_coat σ a b c p q))))) ah') : xm κ 197 [.ref x, .int a, .int b, .int c, .int p, .int q, .ref o] ah R := by
  have ex := g.2.2.1
  subst ex
  have hs : ¬ t_coat σ a b c p q = 0 → s_coat σ a b c p q = σ := fun h => by
    unfold s_coat
    exact xi_f h
  rw [en197]
  simp (disch := omega) only [e197_0, e197_0n, e197_2, e197_3, e197_3n, e197_4, e197_5, e197_6, e197_7, e197_9, xKv, xK0, xKx, xKHv, xKH0, xk_none, xk_i, xk_f, xk_l, xk_r, xk_n, xc_i, xc_f, xc_l, xc_d, xc_r, xc_n, xo_some, List.map_cons, List.map_nil, List.sum_cons, List.sum_nil, xnzn, xpn0, xpn1, xpnb, xpnn, i10, i00, true_imp_iff, false_imp_iff, not_true_eq_false, not_false_eq_true, true_and, and_true, implies_true, xnz0, xnz1, xnzb, xfz0, xfz1, xfzb, Option.isSome_some, if_true, if_false, xbF, xbT, and_false, false_and, Nat.zero_le, Nat.reduceEqDiff, Nat.reduceLeDiff, Nat.reduceAdd, Nat.reduceSub, xiT, xiF]
  rw [e197_11]
  refine ⟨⟨show (1 + (1 + 0) : Nat) ≤ 8 from by decide, ⟨_, g.2.1.x⟩, by decide, by decide⟩, sp_c_coat hK g.2.1 hI hL hn (fun ht A' τ' ah' c1 l1 n1 e1 => ?_) (fun ht => ?_) (fun ht => ?_) (fun ht => ?_)⟩
  · have g1 := g.cl c1 e1
    show xW _ _ _ _
    obtain ⟨f, hf⟩ := g1.2.2.2.1
    have fo : xal ah' o = some (1, f) := xal_of hf
    simp (disch := omega) only [e197_14, e197_15, e197_16, e197_19, e197_19n, e197_21, e197_22, e197_23, e197_23n, e197_25, e197_26, e197_27, e197_27n, e197_29, e197_30, e197_31, e197_32, xKv, xK0, xKx, xKHv, xKH0, xk_none, xk_i, xk_f, xk_l, xk_r, xk_n, xc_i, xc_f, xc_l, xc_d, xc_r, xc_n, xo_some, List.map_cons, List.map_nil, List.sum_cons, List.sum_nil, xnzn, xpn0, xpn1, xpnb, xpnn, i10, i00, true_imp_iff, false_imp_iff, not_true_eq_false, not_false_eq_true, true_and, and_true, implies_true, xnz0, xnz1, xnzb, xfz0, xfz1, xfzb, Option.isSome_some, if_true, if_false, xbF, xbT, and_false, false_and, Nat.zero_le, Nat.reduceEqDiff, Nat.reduceLeDiff, Nat.reduceAdd, Nat.reduceSub, xiT, xiF, fo, vp01]
    have := hR _ _ _ (g1.out (vp_updL f (0 : Int32).toNatClampNeg (v_coat σ a b c p q).toInt64)) l1 n1 (fun _ => ⟨_, xup_self _ _ _, vpL0⟩)
    rw [ht] at this
    exact this
  · have e9 := hs (by rw [ht]; decide)
    have := hR A τ ah (g.st rfl e9) (by rw [e9]; exact hL) (by omega) (fun q => absurd (ht.symm.trans q) (by decide))
    rw [ht] at this
    refine ⟨19, rfl, fun q => ?_⟩
    simp (disch := omega) only [e197_19, e197_19n, e197_21, e197_22, xKv, xK0, xKx, xKHv, xKH0, xk_none, xk_i, xk_f, xk_l, xk_r, xk_n, xc_i, xc_f, xc_l, xc_d, xc_r, xc_n, xo_some, List.map_cons, List.map_nil, List.sum_cons, List.sum_nil, xnzn, xpn0, xpn1, xpnb, xpnn, i10, i00, true_imp_iff, false_imp_iff, not_true_eq_false, not_false_eq_true, true_and, and_true, implies_true, xnz0, xnz1, xnzb, xfz0, xfz1, xfzb, Option.isSome_some, if_true, if_false, xbF, xbT, and_false, false_and, Nat.zero_le, Nat.reduceEqDiff, Nat.reduceLeDiff, Nat.reduceAdd, Nat.reduceSub, xiT, xiF]
    exact this
  · have e9 := hs (by rw [ht]; decide)
    have := hR A τ ah (g.st rfl e9) (by rw [e9]; exact hL) (by omega) (fun q => absurd (ht.symm.trans q) (by decide))
    rw [ht] at this
    refine ⟨23, rfl, fun q => ?_⟩
    simp (disch := omega) only [e197_23, e197_23n, e197_25, e197_26, xKv, xK0, xKx, xKHv, xKH0, xk_none, xk_i, xk_f, xk_l, xk_r, xk_n, xc_i, xc_f, xc_l, xc_d, xc_r, xc_n, xo_some, List.map_cons, List.map_nil, List.sum_cons, List.sum_nil, xnzn, xpn0, xpn1, xpnb, xpnn, i10, i00, true_imp_iff, false_imp_iff, not_true_eq_false, not_false_eq_true, true_and, and_true, implies_true, xnz0, xnz1, xnzb, xfz0, xfz1, xfzb, Option.isSome_some, if_true, if_false, xbF, xbT, and_false, false_and, Nat.zero_le, Nat.reduceEqDiff, Nat.reduceLeDiff, Nat.reduceAdd, Nat.reduceSub, xiT, xiF]
    exact this
  · have e9 := hs (by rw [ht]; decide)
    have := hR A τ ah (g.st rfl e9) (by rw [e9]; exact hL) (by omega) (fun q => absurd (ht.symm.trans q) (by decide))
    rw [ht] at this
    refine ⟨27, rfl, fun q => ?_⟩
    simp (disch := omega) only [e197_27, e197_27n, e197_29, e197_30, xKv, xK0, xKx, xKHv, xKH0, xk_none, xk_i, xk_f, xk_l, xk_r, xk_n, xc_i, xc_f, xc_l, xc_d, xc_r, xc_n, xo_some, List.map_cons, List.map_nil, List.sum_cons, List.sum_nil, xnzn, xpn0, xpn1, xpnb, xpnn, i10, i00, true_imp_iff, false_imp_iff, not_true_eq_false, not_false_eq_true, true_and, and_true, implies_true, xnz0, xnz1, xnzb, xfz0, xfz1, xfzb, Option.isSome_some, if_true, if_false, xbF, xbT, and_false, false_and, Nat.zero_le, Nat.reduceEqDiff, Nat.reduceLeDiff, Nat.reduceAdd, Nat.reduceSub, xiT, xiF]
    exact this
theorem sp_L_scratch (hK : KI κ) (hS : KS κ) (g : G2 κ ad m o d x A τ σ σ ah th) (hI : MI σ) (hN : NJ σ) (hL : LK σ τ) (hn : τ 33 0 < 512) {a : Int32} {b : Int32} {c : Int32} (hR : ∀ A' τ' ah', G2 κ ad m o d x A' τ' σ (s_scratch σ a b c) ah' th → LK (s_scratch σ a b c) τ' → τ' 33 0 ≤ τ 33 0 + 1 → (t_scratch σ a b c = 0 → ∃ f, ah' o = some (.inl (3, 1, .inr (.inl f))) ∧ f 0 = (v_scratch σ a b c).toInt64) → R (.inl (some (.int (nI (t_scratch σ a b c))))) ah') : xm κ 198 [.ref x, .int a, .int b, .int c, .ref o] ah R := by
  have ex := g.2.2.1
  subst ex
  have hs : ¬ t_scratch σ a b c = 0 → s_scratch σ a b c = σ := fun h => by
    unfold s_scratch
    exact xi_f h
  rw [en198]
  simp (disch := omega) only [e198_0, e198_0n, e198_2, e198_3, e198_3n, e198_4, e198_5, e198_6, xKv, xK0, xKx, xKHv, xKH0, xk_none, xk_i, xk_f, xk_l, xk_r, xk_n, xc_i, xc_f, xc_l, xc_d, xc_r, xc_n, xo_some, List.map_cons, List.map_nil, List.sum_cons, List.sum_nil, xnzn, xpn0, xpn1, xpnb, xpnn, i10, i00, true_imp_iff, false_imp_iff, not_true_eq_false, not_false_eq_true, true_and, and_true, implies_true, xnz0, xnz1, xnzb, xfz0, xfz1, xfzb, Option.isSome_some, if_true, if_false, xbF, xbT, and_false, false_and, Nat.zero_le, Nat.reduceEqDiff, Nat.reduceLeDiff, Nat.reduceAdd, Nat.reduceSub, xiT, xiF]
  rw [e198_7]
  refine ⟨⟨show (1 + (1 + 0) : Nat) ≤ 8 from by decide, ⟨_, g.2.1.x⟩, by decide, by decide⟩, sp_c_scratch g.2.1 hI hL (fun ht A' τ' ah' c1 l1 n1 e1 => ?_) (fun ht => ?_) (fun ht => ?_) (fun ht => ?_)⟩
  · have g1 := g.cl c1 e1
    show xW _ _ _ _
    obtain ⟨f, hf⟩ := g1.2.2.2.1
    have fo : xal ah' o = some (1, f) := xal_of hf
    simp (disch := omega) only [e198_10, e198_11, e198_12, e198_15, e198_15n, e198_17, e198_18, e198_19, e198_19n, e198_21, e198_22, e198_23, e198_23n, e198_25, e198_26, e198_27, e198_28, xKv, xK0, xKx, xKHv, xKH0, xk_none, xk_i, xk_f, xk_l, xk_r, xk_n, xc_i, xc_f, xc_l, xc_d, xc_r, xc_n, xo_some, List.map_cons, List.map_nil, List.sum_cons, List.sum_nil, xnzn, xpn0, xpn1, xpnb, xpnn, i10, i00, true_imp_iff, false_imp_iff, not_true_eq_false, not_false_eq_true, true_and, and_true, implies_true, xnz0, xnz1, xnzb, xfz0, xfz1, xfzb, Option.isSome_some, if_true, if_false, xbF, xbT, and_false, false_and, Nat.zero_le, Nat.reduceEqDiff, Nat.reduceLeDiff, Nat.reduceAdd, Nat.reduceSub, xiT, xiF, fo, vp01]
    have := hR _ _ _ (g1.out (vp_updL f (0 : Int32).toNatClampNeg (v_scratch σ a b c).toInt64)) l1 n1 (fun _ => ⟨_, xup_self _ _ _, vpL0⟩)
    rw [ht] at this
    exact this
  · have e9 := hs (by rw [ht]; decide)
    have := hR A τ ah (g.st rfl e9) (by rw [e9]; exact hL) (by omega) (fun q => absurd (ht.symm.trans q) (by decide))
    rw [ht] at this
    refine ⟨15, rfl, fun q => ?_⟩
    simp (disch := omega) only [e198_15, e198_15n, e198_17, e198_18, xKv, xK0, xKx, xKHv, xKH0, xk_none, xk_i, xk_f, xk_l, xk_r, xk_n, xc_i, xc_f, xc_l, xc_d, xc_r, xc_n, xo_some, List.map_cons, List.map_nil, List.sum_cons, List.sum_nil, xnzn, xpn0, xpn1, xpnb, xpnn, i10, i00, true_imp_iff, false_imp_iff, not_true_eq_false, not_false_eq_true, true_and, and_true, implies_true, xnz0, xnz1, xnzb, xfz0, xfz1, xfzb, Option.isSome_some, if_true, if_false, xbF, xbT, and_false, false_and, Nat.zero_le, Nat.reduceEqDiff, Nat.reduceLeDiff, Nat.reduceAdd, Nat.reduceSub, xiT, xiF]
    exact this
  · have e9 := hs (by rw [ht]; decide)
    have := hR A τ ah (g.st rfl e9) (by rw [e9]; exact hL) (by omega) (fun q => absurd (ht.symm.trans q) (by decide))
    rw [ht] at this
    refine ⟨19, rfl, fun q => ?_⟩
    simp (disch := omega) only [e198_19, e198_19n, e198_21, e198_22, xKv, xK0, xKx, xKHv, xKH0, xk_none, xk_i, xk_f, xk_l, xk_r, xk_n, xc_i, xc_f, xc_l, xc_d, xc_r, xc_n, xo_some, List.map_cons, List.map_nil, List.sum_cons, List.sum_nil, xnzn, xpn0, xpn1, xpnb, xpnn, i10, i00, true_imp_iff, false_imp_iff, not_true_eq_false, not_false_eq_true, true_and, and_true, implies_true, xnz0, xnz1, xnzb, xfz0, xfz1, xfzb, Option.isSome_some, if_true, if_false, xbF, xbT, and_false, false_and, Nat.zero_le, Nat.reduceEqDiff, Nat.reduceLeDiff, Nat.reduceAdd, Nat.reduceSub, xiT, xiF]
    exact this
  · have e9 := hs (by rw [ht]; decide)
    have := hR A τ ah (g.st rfl e9) (by rw [e9]; exact hL) (by omega) (fun q => absurd (ht.symm.trans q) (by decide))
    rw [ht] at this
    refine ⟨23, rfl, fun q => ?_⟩
    simp (disch := omega) only [e198_23, e198_23n, e198_25, e198_26, xKv, xK0, xKx, xKHv, xKH0, xk_none, xk_i, xk_f, xk_l, xk_r, xk_n, xc_i, xc_f, xc_l, xc_d, xc_r, xc_n, xo_some, List.map_cons, List.map_nil, List.sum_cons, List.sum_nil, xnzn, xpn0, xpn1, xpnb, xpnn, i10, i00, true_imp_iff, false_imp_iff, not_true_eq_false, not_false_eq_true, true_and, and_true, implies_true, xnz0, xnz1, xnzb, xfz0, xfz1, xfzb, Option.isSome_some, if_true, if_false, xbF, xbT, and_false, false_and, Nat.zero_le, Nat.reduceEqDiff, Nat.reduceLeDiff, Nat.reduceAdd, Nat.reduceSub, xiT, xiF]
    exact this
theorem sp_L_strike (hK : KI κ) (hS : KS κ) (g : G2 κ ad m o d x A τ σ σ ah th) (hI : MI σ) (hN : NJ σ) (hL : LK σ τ) (hn : τ 33 0 < 512) {a : Int32} {b : Int32} (hR : ∀ A' τ' ah', G2 κ ad m o d x A' τ' σ (s_strike σ a b) ah' th → LK (s_strike σ a b) τ' → τ' 33 0 ≤ τ 33 0 + 1 → (t_strike σ a b = 0 → ∃ f, ah' o = some (.inl (3, 1, .inr (.inl f))) ∧ f 0 = (v_strike σ a b).toInt64) → R (.inl (some (.int (nI (t_strike σ a b))))) ah') : xm κ 199 [.ref x, .int a, .int b, .ref o] ah R := by
  have ex := g.2.2.1
  subst ex
  have hs : ¬ t_strike σ a b = 0 → s_strike σ a b = σ := fun h => by
    unfold s_strike
    exact xi_f h
  rw [en199]
  simp (disch := omega) only [e199_0, e199_0n, e199_1, e199_2, e199_2n, e199_3, e199_4, xKv, xK0, xKx, xKHv, xKH0, xk_none, xk_i, xk_f, xk_l, xk_r, xk_n, xc_i, xc_f, xc_l, xc_d, xc_r, xc_n, xo_some, List.map_cons, List.map_nil, List.sum_cons, List.sum_nil, xnzn, xpn0, xpn1, xpnb, xpnn, i10, i00, true_imp_iff, false_imp_iff, not_true_eq_false, not_false_eq_true, true_and, and_true, implies_true, xnz0, xnz1, xnzb, xfz0, xfz1, xfzb, Option.isSome_some, if_true, if_false, xbF, xbT, and_false, false_and, Nat.zero_le, Nat.reduceEqDiff, Nat.reduceLeDiff, Nat.reduceAdd, Nat.reduceSub, xiT, xiF]
  rw [e199_5]
  refine ⟨⟨show (1 + (1 + 0) : Nat) ≤ 8 from by decide, ⟨_, g.2.1.x⟩, by decide, by decide⟩, sp_c_strike g.2.1 hI hL hn (fun ht A' τ' ah' c1 l1 n1 e1 => ?_) (fun ht => ?_) (fun ht => ?_)⟩
  · have g1 := g.cl c1 e1
    show xW _ _ _ _
    obtain ⟨f, hf⟩ := g1.2.2.2.1
    have fo : xal ah' o = some (1, f) := xal_of hf
    simp (disch := omega) only [e199_8, e199_9, e199_10, e199_13, e199_13n, e199_15, e199_16, e199_17, e199_17n, e199_19, e199_20, e199_21, e199_22, xKv, xK0, xKx, xKHv, xKH0, xk_none, xk_i, xk_f, xk_l, xk_r, xk_n, xc_i, xc_f, xc_l, xc_d, xc_r, xc_n, xo_some, List.map_cons, List.map_nil, List.sum_cons, List.sum_nil, xnzn, xpn0, xpn1, xpnb, xpnn, i10, i00, true_imp_iff, false_imp_iff, not_true_eq_false, not_false_eq_true, true_and, and_true, implies_true, xnz0, xnz1, xnzb, xfz0, xfz1, xfzb, Option.isSome_some, if_true, if_false, xbF, xbT, and_false, false_and, Nat.zero_le, Nat.reduceEqDiff, Nat.reduceLeDiff, Nat.reduceAdd, Nat.reduceSub, xiT, xiF, fo, vp01]
    have := hR _ _ _ (g1.out (vp_updL f (0 : Int32).toNatClampNeg (v_strike σ a b).toInt64)) l1 n1 (fun _ => ⟨_, xup_self _ _ _, vpL0⟩)
    rw [ht] at this
    exact this
  · have e9 := hs (by rw [ht]; decide)
    have := hR A τ ah (g.st rfl e9) (by rw [e9]; exact hL) (by omega) (fun q => absurd (ht.symm.trans q) (by decide))
    rw [ht] at this
    refine ⟨13, rfl, fun q => ?_⟩
    simp (disch := omega) only [e199_13, e199_13n, e199_15, e199_16, xKv, xK0, xKx, xKHv, xKH0, xk_none, xk_i, xk_f, xk_l, xk_r, xk_n, xc_i, xc_f, xc_l, xc_d, xc_r, xc_n, xo_some, List.map_cons, List.map_nil, List.sum_cons, List.sum_nil, xnzn, xpn0, xpn1, xpnb, xpnn, i10, i00, true_imp_iff, false_imp_iff, not_true_eq_false, not_false_eq_true, true_and, and_true, implies_true, xnz0, xnz1, xnzb, xfz0, xfz1, xfzb, Option.isSome_some, if_true, if_false, xbF, xbT, and_false, false_and, Nat.zero_le, Nat.reduceEqDiff, Nat.reduceLeDiff, Nat.reduceAdd, Nat.reduceSub, xiT, xiF]
    exact this
  · have e9 := hs (by rw [ht]; decide)
    have := hR A τ ah (g.st rfl e9) (by rw [e9]; exact hL) (by omega) (fun q => absurd (ht.symm.trans q) (by decide))
    rw [ht] at this
    refine ⟨17, rfl, fun q => ?_⟩
    simp (disch := omega) only [e199_17, e199_17n, e199_19, e199_20, xKv, xK0, xKx, xKHv, xKH0, xk_none, xk_i, xk_f, xk_l, xk_r, xk_n, xc_i, xc_f, xc_l, xc_d, xc_r, xc_n, xo_some, List.map_cons, List.map_nil, List.sum_cons, List.sum_nil, xnzn, xpn0, xpn1, xpnb, xpnn, i10, i00, true_imp_iff, false_imp_iff, not_true_eq_false, not_false_eq_true, true_and, and_true, implies_true, xnz0, xnz1, xnzb, xfz0, xfz1, xfzb, Option.isSome_some, if_true, if_false, xbF, xbT, and_false, false_and, Nat.zero_le, Nat.reduceEqDiff, Nat.reduceLeDiff, Nat.reduceAdd, Nat.reduceSub, xiT, xiF]
    exact this
theorem sp_L_pass (hK : KI κ) (hS : KS κ) (g : G2 κ ad m o d x A τ σ σ ah th) (hI : MI σ) (hN : NJ σ) (hL : LK σ τ) (hn : τ 33 0 < 512) {a : Int32} (hR : ∀ A' τ' ah', G2 κ ad m o d x A' τ' σ (s_pass σ a) ah' th → LK (s_pass σ a) τ' → τ' 33 0 ≤ τ 33 0 + 1 → (t_pass σ a = 0 → ∃ f, ah' o = some (.inl (3, 1, .inr (.inl f))) ∧ f 0 = (v_pass σ a).toInt64) → R (.inl (some (.int (nI (t_pass σ a))))) ah') : xm κ 200 [.ref x, .int a, .ref o] ah R := by
  have ex := g.2.2.1
  subst ex
  have hs : ¬ t_pass σ a = 0 → s_pass σ a = σ := fun h => by
    unfold s_pass
    exact xi_f h
  rw [en200]
  simp (disch := omega) only [e200_0, e200_0n, e200_1, e200_2, e200_2n, e200_3, xKv, xK0, xKx, xKHv, xKH0, xk_none, xk_i, xk_f, xk_l, xk_r, xk_n, xc_i, xc_f, xc_l, xc_d, xc_r, xc_n, xo_some, List.map_cons, List.map_nil, List.sum_cons, List.sum_nil, xnzn, xpn0, xpn1, xpnb, xpnn, i10, i00, true_imp_iff, false_imp_iff, not_true_eq_false, not_false_eq_true, true_and, and_true, implies_true, xnz0, xnz1, xnzb, xfz0, xfz1, xfzb, Option.isSome_some, if_true, if_false, xbF, xbT, and_false, false_and, Nat.zero_le, Nat.reduceEqDiff, Nat.reduceLeDiff, Nat.reduceAdd, Nat.reduceSub, xiT, xiF]
  rw [e200_4]
  refine ⟨⟨show (1 + (1 + 0) : Nat) ≤ 8 from by decide, ⟨_, g.2.1.x⟩, by decide, by decide⟩, sp_c_pass hK g.2.1 hI hN.1 hL (fun ht A' τ' ah' c1 l1 n1 e1 => ?_) (fun ht => ?_) (fun ht => ?_)⟩
  · have g1 := g.cl c1 e1
    show xW _ _ _ _
    obtain ⟨f, hf⟩ := g1.2.2.2.1
    have fo : xal ah' o = some (1, f) := xal_of hf
    simp (disch := omega) only [e200_7, e200_8, e200_9, e200_12, e200_12n, e200_13, e200_14, e200_15, e200_15n, e200_16, e200_17, e200_18, e200_19, xKv, xK0, xKx, xKHv, xKH0, xk_none, xk_i, xk_f, xk_l, xk_r, xk_n, xc_i, xc_f, xc_l, xc_d, xc_r, xc_n, xo_some, List.map_cons, List.map_nil, List.sum_cons, List.sum_nil, xnzn, xpn0, xpn1, xpnb, xpnn, i10, i00, true_imp_iff, false_imp_iff, not_true_eq_false, not_false_eq_true, true_and, and_true, implies_true, xnz0, xnz1, xnzb, xfz0, xfz1, xfzb, Option.isSome_some, if_true, if_false, xbF, xbT, and_false, false_and, Nat.zero_le, Nat.reduceEqDiff, Nat.reduceLeDiff, Nat.reduceAdd, Nat.reduceSub, xiT, xiF, fo, vp01]
    have := hR _ _ _ (g1.out (vp_updL f (0 : Int32).toNatClampNeg (v_pass σ a).toInt64)) l1 n1 (fun _ => ⟨_, xup_self _ _ _, vpL0⟩)
    rw [ht] at this
    exact this
  · have e9 := hs (by rw [ht]; decide)
    have := hR A τ ah (g.st rfl e9) (by rw [e9]; exact hL) (by omega) (fun q => absurd (ht.symm.trans q) (by decide))
    rw [ht] at this
    refine ⟨12, rfl, fun q => ?_⟩
    simp (disch := omega) only [e200_12, e200_12n, e200_13, e200_14, xKv, xK0, xKx, xKHv, xKH0, xk_none, xk_i, xk_f, xk_l, xk_r, xk_n, xc_i, xc_f, xc_l, xc_d, xc_r, xc_n, xo_some, List.map_cons, List.map_nil, List.sum_cons, List.sum_nil, xnzn, xpn0, xpn1, xpnb, xpnn, i10, i00, true_imp_iff, false_imp_iff, not_true_eq_false, not_false_eq_true, true_and, and_true, implies_true, xnz0, xnz1, xnzb, xfz0, xfz1, xfzb, Option.isSome_some, if_true, if_false, xbF, xbT, and_false, false_and, Nat.zero_le, Nat.reduceEqDiff, Nat.reduceLeDiff, Nat.reduceAdd, Nat.reduceSub, xiT, xiF]
    exact this
  · have e9 := hs (by rw [ht]; decide)
    have := hR A τ ah (g.st rfl e9) (by rw [e9]; exact hL) (by omega) (fun q => absurd (ht.symm.trans q) (by decide))
    rw [ht] at this
    refine ⟨15, rfl, fun q => ?_⟩
    simp (disch := omega) only [e200_15, e200_15n, e200_16, e200_17, xKv, xK0, xKx, xKHv, xKH0, xk_none, xk_i, xk_f, xk_l, xk_r, xk_n, xc_i, xc_f, xc_l, xc_d, xc_r, xc_n, xo_some, List.map_cons, List.map_nil, List.sum_cons, List.sum_nil, xnzn, xpn0, xpn1, xpnb, xpnn, i10, i00, true_imp_iff, false_imp_iff, not_true_eq_false, not_false_eq_true, true_and, and_true, implies_true, xnz0, xnz1, xnzb, xfz0, xfz1, xfzb, Option.isSome_some, if_true, if_false, xbF, xbT, and_false, false_and, Nat.zero_le, Nat.reduceEqDiff, Nat.reduceLeDiff, Nat.reduceAdd, Nat.reduceSub, xiT, xiF]
    exact this
theorem sp_L_ofCoat (hK : KI κ) (hS : KS κ) (g : G2 κ ad m o d x A τ σ σ ah th) (hI : MI σ) (hN : NJ σ) (hL : LK σ τ) (hn : τ 33 0 < 512) {a : Int32} {b : Int32} {c : Int32} {p : Int32} (hR : ∀ A' τ' ah', G2 κ ad m o d x A' τ' σ (σ) ah' th → LK (σ) τ' → τ' 33 0 ≤ τ 33 0 + 1 → (t_ofCoat σ a b c p = 0 → ∃ f, ah' o = some (.inl (3, 1, .inr (.inl f))) ∧ f 0 = (v_ofCoat σ a b c p).toInt64) → R (.inl (some (.int (nI (t_ofCoat σ a b c p))))) ah') : xm κ 201 [.ref x, .int a, .int b, .int c, .int p, .ref o] ah R := by
  have ex := g.2.2.1
  subst ex
  rw [en201]
  simp (disch := omega) only [e201_0, e201_0n, e201_2, e201_3, e201_3n, e201_4, e201_5, e201_6, e201_7, xKv, xK0, xKx, xKHv, xKH0, xk_none, xk_i, xk_f, xk_l, xk_r, xk_n, xc_i, xc_f, xc_l, xc_d, xc_r, xc_n, xo_some, List.map_cons, List.map_nil, List.sum_cons, List.sum_nil, xnzn, xpn0, xpn1, xpnb, xpnn, i10, i00, true_imp_iff, false_imp_iff, not_true_eq_false, not_false_eq_true, true_and, and_true, implies_true, xnz0, xnz1, xnzb, xfz0, xfz1, xfzb, Option.isSome_some, if_true, if_false, xbF, xbT, and_false, false_and, Nat.zero_le, Nat.reduceEqDiff, Nat.reduceLeDiff, Nat.reduceAdd, Nat.reduceSub, xiT, xiF]
  rw [e201_9]
  refine ⟨⟨show (1 + (1 + 0) : Nat) ≤ 8 from by decide, ⟨_, g.2.1.x⟩, by decide, by decide⟩, sp_c_ofCoat hK g.2.1 hI hL (fun ht A' τ' ah' c1 l1 n1 e1 => ?_) (fun ht => ?_) (fun ht => ?_)⟩
  · have g1 := g.cl c1 e1
    show xW _ _ _ _
    obtain ⟨f, hf⟩ := g1.2.2.2.1
    have fo : xal ah' o = some (1, f) := xal_of hf
    simp (disch := omega) only [e201_12, e201_13, e201_14, e201_17, e201_17n, e201_19, e201_20, e201_21, e201_21n, e201_23, e201_24, e201_25, e201_26, xKv, xK0, xKx, xKHv, xKH0, xk_none, xk_i, xk_f, xk_l, xk_r, xk_n, xc_i, xc_f, xc_l, xc_d, xc_r, xc_n, xo_some, List.map_cons, List.map_nil, List.sum_cons, List.sum_nil, xnzn, xpn0, xpn1, xpnb, xpnn, i10, i00, true_imp_iff, false_imp_iff, not_true_eq_false, not_false_eq_true, true_and, and_true, implies_true, xnz0, xnz1, xnzb, xfz0, xfz1, xfzb, Option.isSome_some, if_true, if_false, xbF, xbT, and_false, false_and, Nat.zero_le, Nat.reduceEqDiff, Nat.reduceLeDiff, Nat.reduceAdd, Nat.reduceSub, xiT, xiF, fo, vp01]
    have := hR _ _ _ (g1.out (vp_updL f (0 : Int32).toNatClampNeg (v_ofCoat σ a b c p).toInt64)) l1 n1 (fun _ => ⟨_, xup_self _ _ _, vpL0⟩)
    rw [ht] at this
    exact this
  · have := hR A τ ah g hL (by omega) (fun q => absurd (ht.symm.trans q) (by decide))
    rw [ht] at this
    refine ⟨17, rfl, fun q => ?_⟩
    simp (disch := omega) only [e201_17, e201_17n, e201_19, e201_20, xKv, xK0, xKx, xKHv, xKH0, xk_none, xk_i, xk_f, xk_l, xk_r, xk_n, xc_i, xc_f, xc_l, xc_d, xc_r, xc_n, xo_some, List.map_cons, List.map_nil, List.sum_cons, List.sum_nil, xnzn, xpn0, xpn1, xpnb, xpnn, i10, i00, true_imp_iff, false_imp_iff, not_true_eq_false, not_false_eq_true, true_and, and_true, implies_true, xnz0, xnz1, xnzb, xfz0, xfz1, xfzb, Option.isSome_some, if_true, if_false, xbF, xbT, and_false, false_and, Nat.zero_le, Nat.reduceEqDiff, Nat.reduceLeDiff, Nat.reduceAdd, Nat.reduceSub, xiT, xiF]
    exact this
  · have := hR A τ ah g hL (by omega) (fun q => absurd (ht.symm.trans q) (by decide))
    rw [ht] at this
    refine ⟨21, rfl, fun q => ?_⟩
    simp (disch := omega) only [e201_21, e201_21n, e201_23, e201_24, xKv, xK0, xKx, xKHv, xKH0, xk_none, xk_i, xk_f, xk_l, xk_r, xk_n, xc_i, xc_f, xc_l, xc_d, xc_r, xc_n, xo_some, List.map_cons, List.map_nil, List.sum_cons, List.sum_nil, xnzn, xpn0, xpn1, xpnb, xpnn, i10, i00, true_imp_iff, false_imp_iff, not_true_eq_false, not_false_eq_true, true_and, and_true, implies_true, xnz0, xnz1, xnzb, xfz0, xfz1, xfzb, Option.isSome_some, if_true, if_false, xbF, xbT, and_false, false_and, Nat.zero_le, Nat.reduceEqDiff, Nat.reduceLeDiff, Nat.reduceAdd, Nat.reduceSub, xiT, xiF]
    exact this
theorem sp_L_coatsAnew (hK : KI κ) (hS : KS κ) (g : G2 κ ad m o d x A τ σ σ ah th) (hI : MI σ) (hN : NJ σ) (hL : LK σ τ) (hn : τ 33 0 < 512) {a : Int32} {b : Int32} (hR : ∀ A' τ' ah', G2 κ ad m o d x A' τ' σ (σ) ah' th → LK (σ) τ' → τ' 33 0 ≤ τ 33 0 + 1 → (t_coatsAnew σ a b = 0 → ∃ f, ah' o = some (.inl (3, 1, .inr (.inl f))) ∧ f 0 = (v_coatsAnew σ a b).toInt64) → R (.inl (some (.int (nI (t_coatsAnew σ a b))))) ah') : xm κ 202 [.ref x, .int a, .int b, .ref o] ah R := by
  have ex := g.2.2.1
  subst ex
  rw [en202]
  simp (disch := omega) only [e202_0, e202_0n, e202_1, e202_2, e202_2n, e202_3, e202_4, xKv, xK0, xKx, xKHv, xKH0, xk_none, xk_i, xk_f, xk_l, xk_r, xk_n, xc_i, xc_f, xc_l, xc_d, xc_r, xc_n, xo_some, List.map_cons, List.map_nil, List.sum_cons, List.sum_nil, xnzn, xpn0, xpn1, xpnb, xpnn, i10, i00, true_imp_iff, false_imp_iff, not_true_eq_false, not_false_eq_true, true_and, and_true, implies_true, xnz0, xnz1, xnzb, xfz0, xfz1, xfzb, Option.isSome_some, if_true, if_false, xbF, xbT, and_false, false_and, Nat.zero_le, Nat.reduceEqDiff, Nat.reduceLeDiff, Nat.reduceAdd, Nat.reduceSub, xiT, xiF]
  rw [e202_5]
  refine ⟨⟨show (1 + (1 + 0) : Nat) ≤ 8 from by decide, ⟨_, g.2.1.x⟩, by decide, by decide⟩, sp_c_coatsAnew g.2.1 hI hL (by omega) (fun ht A' τ' ah' c1 l1 n1 e1 => ?_) (fun ht => ?_)⟩
  · have g1 := g.cl c1 e1
    show xW _ _ _ _
    obtain ⟨f, hf⟩ := g1.2.2.2.1
    have fo : xal ah' o = some (1, f) := xal_of hf
    simp (disch := omega) only [e202_8, e202_9, e202_10, e202_13, e202_13n, e202_15, e202_16, e202_17, e202_18, xKv, xK0, xKx, xKHv, xKH0, xk_none, xk_i, xk_f, xk_l, xk_r, xk_n, xc_i, xc_f, xc_l, xc_d, xc_r, xc_n, xo_some, List.map_cons, List.map_nil, List.sum_cons, List.sum_nil, xnzn, xpn0, xpn1, xpnb, xpnn, i10, i00, true_imp_iff, false_imp_iff, not_true_eq_false, not_false_eq_true, true_and, and_true, implies_true, xnz0, xnz1, xnzb, xfz0, xfz1, xfzb, Option.isSome_some, if_true, if_false, xbF, xbT, and_false, false_and, Nat.zero_le, Nat.reduceEqDiff, Nat.reduceLeDiff, Nat.reduceAdd, Nat.reduceSub, xiT, xiF, fo, vp01]
    have := hR _ _ _ (g1.out (vp_updL f (0 : Int32).toNatClampNeg (v_coatsAnew σ a b).toInt64)) l1 n1 (fun _ => ⟨_, xup_self _ _ _, vpL0⟩)
    rw [ht] at this
    exact this
  · have := hR A τ ah g hL (by omega) (fun q => absurd (ht.symm.trans q) (by decide))
    rw [ht] at this
    refine ⟨13, rfl, fun q => ?_⟩
    simp (disch := omega) only [e202_13, e202_13n, e202_15, e202_16, xKv, xK0, xKx, xKHv, xKH0, xk_none, xk_i, xk_f, xk_l, xk_r, xk_n, xc_i, xc_f, xc_l, xc_d, xc_r, xc_n, xo_some, List.map_cons, List.map_nil, List.sum_cons, List.sum_nil, xnzn, xpn0, xpn1, xpnb, xpnn, i10, i00, true_imp_iff, false_imp_iff, not_true_eq_false, not_false_eq_true, true_and, and_true, implies_true, xnz0, xnz1, xnzb, xfz0, xfz1, xfzb, Option.isSome_some, if_true, if_false, xbF, xbT, and_false, false_and, Nat.zero_le, Nat.reduceEqDiff, Nat.reduceLeDiff, Nat.reduceAdd, Nat.reduceSub, xiT, xiF]
    exact this
theorem sp_L_text (hK : KI κ) (hS : KS κ) (g : G2 κ ad m o d x A τ σ σ ah th) (hI : MI σ) (hN : NJ σ) (hL : LK σ τ) (hn : τ 33 0 < 512) {a : Int32} {b : Int32} {c : Int32} {p : Int32} (hR : ∀ A' τ' ah', G2 κ ad m o d x A' τ' σ (σ) ah' th → LK (σ) τ' → τ' 33 0 ≤ τ 33 0 + 1 → (t_text σ a b c p = 0 → ∃ f, ah' o = some (.inl (3, 1, .inr (.inl f))) ∧ f 0 = (v_text σ a b c p).toInt64) → R (.inl (some (.int (nI (t_text σ a b c p))))) ah') : xm κ 203 [.ref x, .int a, .int b, .int c, .int p, .ref o] ah R := by
  have ex := g.2.2.1
  subst ex
  rw [en203]
  simp (disch := omega) only [e203_0, e203_0n, e203_2, e203_3, e203_3n, e203_4, e203_5, e203_6, e203_7, xKv, xK0, xKx, xKHv, xKH0, xk_none, xk_i, xk_f, xk_l, xk_r, xk_n, xc_i, xc_f, xc_l, xc_d, xc_r, xc_n, xo_some, List.map_cons, List.map_nil, List.sum_cons, List.sum_nil, xnzn, xpn0, xpn1, xpnb, xpnn, i10, i00, true_imp_iff, false_imp_iff, not_true_eq_false, not_false_eq_true, true_and, and_true, implies_true, xnz0, xnz1, xnzb, xfz0, xfz1, xfzb, Option.isSome_some, if_true, if_false, xbF, xbT, and_false, false_and, Nat.zero_le, Nat.reduceEqDiff, Nat.reduceLeDiff, Nat.reduceAdd, Nat.reduceSub, xiT, xiF]
  rw [e203_9]
  refine ⟨⟨show (1 + (1 + 0) : Nat) ≤ 8 from by decide, ⟨_, g.2.1.x⟩, by decide, by decide⟩, sp_c_text hK hS g.2.1 hI hL (fun ht A' τ' ah' c1 l1 n1 e1 => ?_) (fun ht => ?_)⟩
  · have g1 := g.cl c1 e1
    show xW _ _ _ _
    obtain ⟨f, hf⟩ := g1.2.2.2.1
    have fo : xal ah' o = some (1, f) := xal_of hf
    simp (disch := omega) only [e203_12, e203_13, e203_14, e203_17, e203_17n, e203_19, e203_20, e203_21, e203_22, xKv, xK0, xKx, xKHv, xKH0, xk_none, xk_i, xk_f, xk_l, xk_r, xk_n, xc_i, xc_f, xc_l, xc_d, xc_r, xc_n, xo_some, List.map_cons, List.map_nil, List.sum_cons, List.sum_nil, xnzn, xpn0, xpn1, xpnb, xpnn, i10, i00, true_imp_iff, false_imp_iff, not_true_eq_false, not_false_eq_true, true_and, and_true, implies_true, xnz0, xnz1, xnzb, xfz0, xfz1, xfzb, Option.isSome_some, if_true, if_false, xbF, xbT, and_false, false_and, Nat.zero_le, Nat.reduceEqDiff, Nat.reduceLeDiff, Nat.reduceAdd, Nat.reduceSub, xiT, xiF, fo, vp01]
    have := hR _ _ _ (g1.out (vp_updL f (0 : Int32).toNatClampNeg (v_text σ a b c p).toInt64)) l1 n1 (fun _ => ⟨_, xup_self _ _ _, vpL0⟩)
    rw [ht] at this
    exact this
  · have := hR A τ ah g hL (by omega) (fun q => absurd (ht.symm.trans q) (by decide))
    rw [ht] at this
    refine ⟨17, rfl, fun q => ?_⟩
    simp (disch := omega) only [e203_17, e203_17n, e203_19, e203_20, xKv, xK0, xKx, xKHv, xKH0, xk_none, xk_i, xk_f, xk_l, xk_r, xk_n, xc_i, xc_f, xc_l, xc_d, xc_r, xc_n, xo_some, List.map_cons, List.map_nil, List.sum_cons, List.sum_nil, xnzn, xpn0, xpn1, xpnb, xpnn, i10, i00, true_imp_iff, false_imp_iff, not_true_eq_false, not_false_eq_true, true_and, and_true, implies_true, xnz0, xnz1, xnzb, xfz0, xfz1, xfzb, Option.isSome_some, if_true, if_false, xbF, xbT, and_false, false_and, Nat.zero_le, Nat.reduceEqDiff, Nat.reduceLeDiff, Nat.reduceAdd, Nat.reduceSub, xiT, xiF]
    exact this
theorem sp_L_profile (hK : KI κ) (hS : KS κ) (g : G2 κ ad m o d x A τ σ σ ah th) (hI : MI σ) (hN : NJ σ) (hL : LK σ τ) (hn : τ 33 0 < 512) {a : Int32} (hR : ∀ A' τ' ah', G2 κ ad m o d x A' τ' σ (s_profile σ a) ah' th → LK (s_profile σ a) τ' → τ' 33 0 ≤ τ 33 0 + 1 → (t_profile σ a = 0 → ∃ f, ah' o = some (.inl (3, 1, .inr (.inl f))) ∧ f 0 = (v_profile σ a).toInt64) → R (.inl (some (.int (nI (t_profile σ a))))) ah') : xm κ 204 [.ref x, .int a, .ref o] ah R := by
  have ex := g.2.2.1
  subst ex
  have hs : ¬ t_profile σ a = 0 → s_profile σ a = σ := fun h => by
    unfold s_profile
    exact xi_f h
  rw [en204]
  simp (disch := omega) only [e204_0, e204_0n, e204_1, e204_2, e204_2n, e204_3, xKv, xK0, xKx, xKHv, xKH0, xk_none, xk_i, xk_f, xk_l, xk_r, xk_n, xc_i, xc_f, xc_l, xc_d, xc_r, xc_n, xo_some, List.map_cons, List.map_nil, List.sum_cons, List.sum_nil, xnzn, xpn0, xpn1, xpnb, xpnn, i10, i00, true_imp_iff, false_imp_iff, not_true_eq_false, not_false_eq_true, true_and, and_true, implies_true, xnz0, xnz1, xnzb, xfz0, xfz1, xfzb, Option.isSome_some, if_true, if_false, xbF, xbT, and_false, false_and, Nat.zero_le, Nat.reduceEqDiff, Nat.reduceLeDiff, Nat.reduceAdd, Nat.reduceSub, xiT, xiF]
  rw [e204_4]
  refine ⟨⟨show (1 + (1 + 0) : Nat) ≤ 8 from by decide, ⟨_, g.2.1.x⟩, by decide, by decide⟩, sp_c_profile g.2.1 hI hL (fun ht A' τ' ah' c1 l1 n1 e1 => ?_) (fun ht => ?_) (fun ht => ?_)⟩
  · have g1 := g.cl c1 e1
    show xW _ _ _ _
    obtain ⟨f, hf⟩ := g1.2.2.2.1
    have fo : xal ah' o = some (1, f) := xal_of hf
    simp (disch := omega) only [e204_7, e204_8, e204_9, e204_12, e204_12n, e204_13, e204_14, e204_15, e204_15n, e204_16, e204_17, e204_18, e204_19, xKv, xK0, xKx, xKHv, xKH0, xk_none, xk_i, xk_f, xk_l, xk_r, xk_n, xc_i, xc_f, xc_l, xc_d, xc_r, xc_n, xo_some, List.map_cons, List.map_nil, List.sum_cons, List.sum_nil, xnzn, xpn0, xpn1, xpnb, xpnn, i10, i00, true_imp_iff, false_imp_iff, not_true_eq_false, not_false_eq_true, true_and, and_true, implies_true, xnz0, xnz1, xnzb, xfz0, xfz1, xfzb, Option.isSome_some, if_true, if_false, xbF, xbT, and_false, false_and, Nat.zero_le, Nat.reduceEqDiff, Nat.reduceLeDiff, Nat.reduceAdd, Nat.reduceSub, xiT, xiF, fo, vp01]
    have := hR _ _ _ (g1.out (vp_updL f (0 : Int32).toNatClampNeg (v_profile σ a).toInt64)) l1 n1 (fun _ => ⟨_, xup_self _ _ _, vpL0⟩)
    rw [ht] at this
    exact this
  · have e9 := hs (by rw [ht]; decide)
    have := hR A τ ah (g.st rfl e9) (by rw [e9]; exact hL) (by omega) (fun q => absurd (ht.symm.trans q) (by decide))
    rw [ht] at this
    refine ⟨12, rfl, fun q => ?_⟩
    simp (disch := omega) only [e204_12, e204_12n, e204_13, e204_14, xKv, xK0, xKx, xKHv, xKH0, xk_none, xk_i, xk_f, xk_l, xk_r, xk_n, xc_i, xc_f, xc_l, xc_d, xc_r, xc_n, xo_some, List.map_cons, List.map_nil, List.sum_cons, List.sum_nil, xnzn, xpn0, xpn1, xpnb, xpnn, i10, i00, true_imp_iff, false_imp_iff, not_true_eq_false, not_false_eq_true, true_and, and_true, implies_true, xnz0, xnz1, xnzb, xfz0, xfz1, xfzb, Option.isSome_some, if_true, if_false, xbF, xbT, and_false, false_and, Nat.zero_le, Nat.reduceEqDiff, Nat.reduceLeDiff, Nat.reduceAdd, Nat.reduceSub, xiT, xiF]
    exact this
  · have e9 := hs (by rw [ht]; decide)
    have := hR A τ ah (g.st rfl e9) (by rw [e9]; exact hL) (by omega) (fun q => absurd (ht.symm.trans q) (by decide))
    rw [ht] at this
    refine ⟨15, rfl, fun q => ?_⟩
    simp (disch := omega) only [e204_15, e204_15n, e204_16, e204_17, xKv, xK0, xKx, xKHv, xKH0, xk_none, xk_i, xk_f, xk_l, xk_r, xk_n, xc_i, xc_f, xc_l, xc_d, xc_r, xc_n, xo_some, List.map_cons, List.map_nil, List.sum_cons, List.sum_nil, xnzn, xpn0, xpn1, xpnb, xpnn, i10, i00, true_imp_iff, false_imp_iff, not_true_eq_false, not_false_eq_true, true_and, and_true, implies_true, xnz0, xnz1, xnzb, xfz0, xfz1, xfzb, Option.isSome_some, if_true, if_false, xbF, xbT, and_false, false_and, Nat.zero_le, Nat.reduceEqDiff, Nat.reduceLeDiff, Nat.reduceAdd, Nat.reduceSub, xiT, xiF]
    exact this
theorem sp_L_depth (hK : KI κ) (hS : KS κ) (g : G2 κ ad m o d x A τ σ σ ah th) (hI : MI σ) (hN : NJ σ) (hL : LK σ τ) (hn : τ 33 0 < 512) {a : Int32} {b : Int32} (hR : ∀ A' τ' ah', G2 κ ad m o d x A' τ' σ (s_depth σ a b) ah' th → LK (s_depth σ a b) τ' → τ' 33 0 ≤ τ 33 0 + 1 → (t_depth σ a b = 0 → ∃ f, ah' o = some (.inl (3, 1, .inr (.inl f))) ∧ f 0 = (v_depth σ a b).toInt64) → R (.inl (some (.int (nI (t_depth σ a b))))) ah') : xm κ 205 [.ref x, .int a, .int b, .ref o] ah R := by
  have ex := g.2.2.1
  subst ex
  have hs : ¬ t_depth σ a b = 0 → s_depth σ a b = σ := fun h => by
    unfold s_depth
    exact xi_f h
  rw [en205]
  simp (disch := omega) only [e205_0, e205_0n, e205_1, e205_2, e205_2n, e205_3, e205_4, xKv, xK0, xKx, xKHv, xKH0, xk_none, xk_i, xk_f, xk_l, xk_r, xk_n, xc_i, xc_f, xc_l, xc_d, xc_r, xc_n, xo_some, List.map_cons, List.map_nil, List.sum_cons, List.sum_nil, xnzn, xpn0, xpn1, xpnb, xpnn, i10, i00, true_imp_iff, false_imp_iff, not_true_eq_false, not_false_eq_true, true_and, and_true, implies_true, xnz0, xnz1, xnzb, xfz0, xfz1, xfzb, Option.isSome_some, if_true, if_false, xbF, xbT, and_false, false_and, Nat.zero_le, Nat.reduceEqDiff, Nat.reduceLeDiff, Nat.reduceAdd, Nat.reduceSub, xiT, xiF]
  rw [e205_5]
  refine ⟨⟨show (1 + (1 + 0) : Nat) ≤ 8 from by decide, ⟨_, g.2.1.x⟩, by decide, by decide⟩, sp_c_depth g.2.1 hI hL (fun ht A' τ' ah' c1 l1 n1 e1 => ?_) (fun ht => ?_) (fun ht => ?_) (fun ht => ?_)⟩
  · have g1 := g.cl c1 e1
    show xW _ _ _ _
    obtain ⟨f, hf⟩ := g1.2.2.2.1
    have fo : xal ah' o = some (1, f) := xal_of hf
    simp (disch := omega) only [e205_8, e205_9, e205_10, e205_13, e205_13n, e205_15, e205_16, e205_17, e205_17n, e205_19, e205_20, e205_21, e205_21n, e205_23, e205_24, e205_25, e205_26, xKv, xK0, xKx, xKHv, xKH0, xk_none, xk_i, xk_f, xk_l, xk_r, xk_n, xc_i, xc_f, xc_l, xc_d, xc_r, xc_n, xo_some, List.map_cons, List.map_nil, List.sum_cons, List.sum_nil, xnzn, xpn0, xpn1, xpnb, xpnn, i10, i00, true_imp_iff, false_imp_iff, not_true_eq_false, not_false_eq_true, true_and, and_true, implies_true, xnz0, xnz1, xnzb, xfz0, xfz1, xfzb, Option.isSome_some, if_true, if_false, xbF, xbT, and_false, false_and, Nat.zero_le, Nat.reduceEqDiff, Nat.reduceLeDiff, Nat.reduceAdd, Nat.reduceSub, xiT, xiF, fo, vp01]
    have := hR _ _ _ (g1.out (vp_updL f (0 : Int32).toNatClampNeg (v_depth σ a b).toInt64)) l1 n1 (fun _ => ⟨_, xup_self _ _ _, vpL0⟩)
    rw [ht] at this
    exact this
  · have e9 := hs (by rw [ht]; decide)
    have := hR A τ ah (g.st rfl e9) (by rw [e9]; exact hL) (by omega) (fun q => absurd (ht.symm.trans q) (by decide))
    rw [ht] at this
    refine ⟨13, rfl, fun q => ?_⟩
    simp (disch := omega) only [e205_13, e205_13n, e205_15, e205_16, xKv, xK0, xKx, xKHv, xKH0, xk_none, xk_i, xk_f, xk_l, xk_r, xk_n, xc_i, xc_f, xc_l, xc_d, xc_r, xc_n, xo_some, List.map_cons, List.map_nil, List.sum_cons, List.sum_nil, xnzn, xpn0, xpn1, xpnb, xpnn, i10, i00, true_imp_iff, false_imp_iff, not_true_eq_false, not_false_eq_true, true_and, and_true, implies_true, xnz0, xnz1, xnzb, xfz0, xfz1, xfzb, Option.isSome_some, if_true, if_false, xbF, xbT, and_false, false_and, Nat.zero_le, Nat.reduceEqDiff, Nat.reduceLeDiff, Nat.reduceAdd, Nat.reduceSub, xiT, xiF]
    exact this
  · have e9 := hs (by rw [ht]; decide)
    have := hR A τ ah (g.st rfl e9) (by rw [e9]; exact hL) (by omega) (fun q => absurd (ht.symm.trans q) (by decide))
    rw [ht] at this
    refine ⟨17, rfl, fun q => ?_⟩
    simp (disch := omega) only [e205_17, e205_17n, e205_19, e205_20, xKv, xK0, xKx, xKHv, xKH0, xk_none, xk_i, xk_f, xk_l, xk_r, xk_n, xc_i, xc_f, xc_l, xc_d, xc_r, xc_n, xo_some, List.map_cons, List.map_nil, List.sum_cons, List.sum_nil, xnzn, xpn0, xpn1, xpnb, xpnn, i10, i00, true_imp_iff, false_imp_iff, not_true_eq_false, not_false_eq_true, true_and, and_true, implies_true, xnz0, xnz1, xnzb, xfz0, xfz1, xfzb, Option.isSome_some, if_true, if_false, xbF, xbT, and_false, false_and, Nat.zero_le, Nat.reduceEqDiff, Nat.reduceLeDiff, Nat.reduceAdd, Nat.reduceSub, xiT, xiF]
    exact this
  · have e9 := hs (by rw [ht]; decide)
    have := hR A τ ah (g.st rfl e9) (by rw [e9]; exact hL) (by omega) (fun q => absurd (ht.symm.trans q) (by decide))
    rw [ht] at this
    refine ⟨21, rfl, fun q => ?_⟩
    simp (disch := omega) only [e205_21, e205_21n, e205_23, e205_24, xKv, xK0, xKx, xKHv, xKH0, xk_none, xk_i, xk_f, xk_l, xk_r, xk_n, xc_i, xc_f, xc_l, xc_d, xc_r, xc_n, xo_some, List.map_cons, List.map_nil, List.sum_cons, List.sum_nil, xnzn, xpn0, xpn1, xpnb, xpnn, i10, i00, true_imp_iff, false_imp_iff, not_true_eq_false, not_false_eq_true, true_and, and_true, implies_true, xnz0, xnz1, xnzb, xfz0, xfz1, xfzb, Option.isSome_some, if_true, if_false, xbF, xbT, and_false, false_and, Nat.zero_le, Nat.reduceEqDiff, Nat.reduceLeDiff, Nat.reduceAdd, Nat.reduceSub, xiT, xiF]
    exact this
theorem sp_L_mitre (hK : KI κ) (hS : KS κ) (g : G2 κ ad m o d x A τ σ σ ah th) (hI : MI σ) (hN : NJ σ) (hL : LK σ τ) (hn : τ 33 0 < 512) {a : Int32} {b : Int32} (hv : t_mitre σ a b = 0 → vf_n64 (FP.f2d (v_mitre σ a b))) (hR : ∀ A' τ' ah', G2 κ ad m o d x A' τ' σ (σ) ah' th → LK (σ) τ' → τ' 33 0 ≤ τ 33 0 + 1 → (t_mitre σ a b = 0 → ∃ f, ah' d = some (.inl (4, 1, .inr (.inr (.inr (.inl f))))) ∧ f 0 = FP.f2d (v_mitre σ a b)) → R (.inl (some (.int (nI (t_mitre σ a b))))) ah') : xm κ 206 [.ref x, .int a, .int b, .ref d] ah R := by
  have ex := g.2.2.1
  subst ex
  rw [en206]
  simp (disch := omega) only [e206_0, e206_0n, e206_1, e206_2, e206_2n, e206_3, e206_4, xKv, xK0, xKx, xKHv, xKH0, xk_none, xk_i, xk_f, xk_l, xk_r, xk_n, xc_i, xc_f, xc_l, xc_d, xc_r, xc_n, xo_some, List.map_cons, List.map_nil, List.sum_cons, List.sum_nil, xnzn, xpn0, xpn1, xpnb, xpnn, i10, i00, true_imp_iff, false_imp_iff, not_true_eq_false, not_false_eq_true, true_and, and_true, implies_true, xnz0, xnz1, xnzb, xfz0, xfz1, xfzb, Option.isSome_some, if_true, if_false, xbF, xbT, and_false, false_and, Nat.zero_le, Nat.reduceEqDiff, Nat.reduceLeDiff, Nat.reduceAdd, Nat.reduceSub, xiT, xiF]
  rw [e206_5]
  refine ⟨⟨show (1 + (1 + 0) : Nat) ≤ 8 from by decide, ⟨_, g.2.1.x⟩, by decide, by decide⟩, sp_c_mitre g.2.1 hI hL (fun ht A' τ' ah' c1 l1 n1 e1 => ?_) (fun ht => ?_)⟩
  · have g1 := g.cl c1 e1
    show xW _ _ _ _
    obtain ⟨f, hf⟩ := g1.2.2.2.2.1
    have fo : xad ah' d = some (1, f) := xad_of hf
    have hv0 := eq_true (hv ht)
    simp (disch := omega) only [e206_8, e206_9, e206_10, e206_13, e206_13n, e206_15, e206_16, e206_17, e206_18, xKv, xK0, xKx, xKHv, xKH0, xk_none, xk_i, xk_f, xk_l, xk_r, xk_n, xc_i, xc_f, xc_l, xc_d, xc_r, xc_n, xo_some, List.map_cons, List.map_nil, List.sum_cons, List.sum_nil, xnzn, xpn0, xpn1, xpnb, xpnn, i10, i00, true_imp_iff, false_imp_iff, not_true_eq_false, not_false_eq_true, true_and, and_true, implies_true, xnz0, xnz1, xnzb, xfz0, xfz1, xfzb, Option.isSome_some, if_true, if_false, xbF, xbT, and_false, false_and, Nat.zero_le, Nat.reduceEqDiff, Nat.reduceLeDiff, Nat.reduceAdd, Nat.reduceSub, xiT, xiF, fo, vp01, hv0]
    have := hR _ _ _ (g1.outD (vf_upd f (0 : Int32).toNatClampNeg (FP.f2d (v_mitre σ a b)))) l1 n1 (fun _ => ⟨_, xup_self _ _ _, vpD0⟩)
    rw [ht] at this
    exact this
  · have := hR A τ ah g hL (by omega) (fun q => absurd (ht.symm.trans q) (by decide))
    rw [ht] at this
    refine ⟨13, rfl, fun q => ?_⟩
    simp (disch := omega) only [e206_13, e206_13n, e206_15, e206_16, xKv, xK0, xKx, xKHv, xKH0, xk_none, xk_i, xk_f, xk_l, xk_r, xk_n, xc_i, xc_f, xc_l, xc_d, xc_r, xc_n, xo_some, List.map_cons, List.map_nil, List.sum_cons, List.sum_nil, xnzn, xpn0, xpn1, xpnb, xpnn, i10, i00, true_imp_iff, false_imp_iff, not_true_eq_false, not_false_eq_true, true_and, and_true, implies_true, xnz0, xnz1, xnzb, xfz0, xfz1, xfzb, Option.isSome_some, if_true, if_false, xbF, xbT, and_false, false_and, Nat.zero_le, Nat.reduceEqDiff, Nat.reduceLeDiff, Nat.reduceAdd, Nat.reduceSub, xiT, xiF]
    exact this
theorem sp_L_fits (hK : KI κ) (hS : KS κ) (g : G2 κ ad m o d x A τ σ σ ah th) (hI : MI σ) (hN : NJ σ) (hL : LK σ τ) (hn : τ 33 0 < 512) {a : Int32} {b : Int32} (hR : ∀ A' τ' ah', G2 κ ad m o d x A' τ' σ (σ) ah' th → LK (σ) τ' → τ' 33 0 ≤ τ 33 0 + 1 → (t_fits a b = 0 → ∃ f, ah' o = some (.inl (3, 1, .inr (.inl f))) ∧ f 0 = (v_fits a b).toInt64) → R (.inl (some (.int (nI (t_fits a b))))) ah') : xm κ 207 [.ref x, .int a, .int b, .ref o] ah R := by
  have ex := g.2.2.1
  subst ex
  rw [en207]
  simp (disch := omega) only [e207_0, e207_0n, e207_1, e207_2, e207_2n, e207_3, e207_4, xKv, xK0, xKx, xKHv, xKH0, xk_none, xk_i, xk_f, xk_l, xk_r, xk_n, xc_i, xc_f, xc_l, xc_d, xc_r, xc_n, xo_some, List.map_cons, List.map_nil, List.sum_cons, List.sum_nil, xnzn, xpn0, xpn1, xpnb, xpnn, i10, i00, true_imp_iff, false_imp_iff, not_true_eq_false, not_false_eq_true, true_and, and_true, implies_true, xnz0, xnz1, xnzb, xfz0, xfz1, xfzb, Option.isSome_some, if_true, if_false, xbF, xbT, and_false, false_and, Nat.zero_le, Nat.reduceEqDiff, Nat.reduceLeDiff, Nat.reduceAdd, Nat.reduceSub, xiT, xiF]
  rw [e207_5]
  refine ⟨⟨show (1 + (1 + 0) : Nat) ≤ 8 from by decide, ⟨_, g.2.1.x⟩, by decide, by decide⟩, sp_c_fits g.2.1 hL (fun ht A' τ' ah' c1 l1 n1 e1 => ?_) (fun ht => ?_)⟩
  · have g1 := g.cl c1 e1
    show xW _ _ _ _
    obtain ⟨f, hf⟩ := g1.2.2.2.1
    have fo : xal ah' o = some (1, f) := xal_of hf
    simp (disch := omega) only [e207_8, e207_9, e207_10, e207_13, e207_13n, e207_15, e207_16, e207_17, e207_18, xKv, xK0, xKx, xKHv, xKH0, xk_none, xk_i, xk_f, xk_l, xk_r, xk_n, xc_i, xc_f, xc_l, xc_d, xc_r, xc_n, xo_some, List.map_cons, List.map_nil, List.sum_cons, List.sum_nil, xnzn, xpn0, xpn1, xpnb, xpnn, i10, i00, true_imp_iff, false_imp_iff, not_true_eq_false, not_false_eq_true, true_and, and_true, implies_true, xnz0, xnz1, xnzb, xfz0, xfz1, xfzb, Option.isSome_some, if_true, if_false, xbF, xbT, and_false, false_and, Nat.zero_le, Nat.reduceEqDiff, Nat.reduceLeDiff, Nat.reduceAdd, Nat.reduceSub, xiT, xiF, fo, vp01]
    have := hR _ _ _ (g1.out (vp_updL f (0 : Int32).toNatClampNeg (v_fits a b).toInt64)) l1 n1 (fun _ => ⟨_, xup_self _ _ _, vpL0⟩)
    rw [ht] at this
    exact this
  · have := hR A τ ah g hL (by omega) (fun q => absurd (ht.symm.trans q) (by decide))
    rw [ht] at this
    refine ⟨13, rfl, fun q => ?_⟩
    simp (disch := omega) only [e207_13, e207_13n, e207_15, e207_16, xKv, xK0, xKx, xKHv, xKH0, xk_none, xk_i, xk_f, xk_l, xk_r, xk_n, xc_i, xc_f, xc_l, xc_d, xc_r, xc_n, xo_some, List.map_cons, List.map_nil, List.sum_cons, List.sum_nil, xnzn, xpn0, xpn1, xpnb, xpnn, i10, i00, true_imp_iff, false_imp_iff, not_true_eq_false, not_false_eq_true, true_and, and_true, implies_true, xnz0, xnz1, xnzb, xfz0, xfz1, xfzb, Option.isSome_some, if_true, if_false, xbF, xbT, and_false, false_and, Nat.zero_le, Nat.reduceEqDiff, Nat.reduceLeDiff, Nat.reduceAdd, Nat.reduceSub, xiT, xiF]
    exact this
theorem sp_L_step (hK : KI κ) (hS : KS κ) (g : G2 κ ad m o d x A τ σ σ ah th) (hI : MI σ) (hN : NJ σ) (hL : LK σ τ) (hn : τ 33 0 < 512) {a : Int32} {b : Int32} (hv : t_fits a b = 0 → vf_n64 (FP.f2d (v_step a b))) (hR : ∀ A' τ' ah', G2 κ ad m o d x A' τ' σ (σ) ah' th → LK (σ) τ' → τ' 33 0 ≤ τ 33 0 + 1 → (t_fits a b = 0 → ∃ f, ah' d = some (.inl (4, 1, .inr (.inr (.inr (.inl f))))) ∧ f 0 = FP.f2d (v_step a b)) → R (.inl (some (.int (nI (t_fits a b))))) ah') : xm κ 208 [.ref x, .int a, .int b, .ref d] ah R := by
  have ex := g.2.2.1
  subst ex
  rw [en208]
  simp (disch := omega) only [e208_0, e208_0n, e208_1, e208_2, e208_2n, e208_3, e208_4, xKv, xK0, xKx, xKHv, xKH0, xk_none, xk_i, xk_f, xk_l, xk_r, xk_n, xc_i, xc_f, xc_l, xc_d, xc_r, xc_n, xo_some, List.map_cons, List.map_nil, List.sum_cons, List.sum_nil, xnzn, xpn0, xpn1, xpnb, xpnn, i10, i00, true_imp_iff, false_imp_iff, not_true_eq_false, not_false_eq_true, true_and, and_true, implies_true, xnz0, xnz1, xnzb, xfz0, xfz1, xfzb, Option.isSome_some, if_true, if_false, xbF, xbT, and_false, false_and, Nat.zero_le, Nat.reduceEqDiff, Nat.reduceLeDiff, Nat.reduceAdd, Nat.reduceSub, xiT, xiF]
  rw [e208_5]
  refine ⟨⟨show (1 + (1 + 0) : Nat) ≤ 8 from by decide, ⟨_, g.2.1.x⟩, by decide, by decide⟩, sp_c_step g.2.1 hL (fun ht A' τ' ah' c1 l1 n1 e1 => ?_) (fun ht => ?_)⟩
  · have g1 := g.cl c1 e1
    show xW _ _ _ _
    obtain ⟨f, hf⟩ := g1.2.2.2.2.1
    have fo : xad ah' d = some (1, f) := xad_of hf
    have hv0 := eq_true (hv ht)
    simp (disch := omega) only [e208_8, e208_9, e208_10, e208_13, e208_13n, e208_15, e208_16, e208_17, e208_18, xKv, xK0, xKx, xKHv, xKH0, xk_none, xk_i, xk_f, xk_l, xk_r, xk_n, xc_i, xc_f, xc_l, xc_d, xc_r, xc_n, xo_some, List.map_cons, List.map_nil, List.sum_cons, List.sum_nil, xnzn, xpn0, xpn1, xpnb, xpnn, i10, i00, true_imp_iff, false_imp_iff, not_true_eq_false, not_false_eq_true, true_and, and_true, implies_true, xnz0, xnz1, xnzb, xfz0, xfz1, xfzb, Option.isSome_some, if_true, if_false, xbF, xbT, and_false, false_and, Nat.zero_le, Nat.reduceEqDiff, Nat.reduceLeDiff, Nat.reduceAdd, Nat.reduceSub, xiT, xiF, fo, vp01, hv0]
    have := hR _ _ _ (g1.outD (vf_upd f (0 : Int32).toNatClampNeg (FP.f2d (v_step a b)))) l1 n1 (fun _ => ⟨_, xup_self _ _ _, vpD0⟩)
    rw [ht] at this
    exact this
  · have := hR A τ ah g hL (by omega) (fun q => absurd (ht.symm.trans q) (by decide))
    rw [ht] at this
    refine ⟨13, rfl, fun q => ?_⟩
    simp (disch := omega) only [e208_13, e208_13n, e208_15, e208_16, xKv, xK0, xKx, xKHv, xKH0, xk_none, xk_i, xk_f, xk_l, xk_r, xk_n, xc_i, xc_f, xc_l, xc_d, xc_r, xc_n, xo_some, List.map_cons, List.map_nil, List.sum_cons, List.sum_nil, xnzn, xpn0, xpn1, xpnb, xpnn, i10, i00, true_imp_iff, false_imp_iff, not_true_eq_false, not_false_eq_true, true_and, and_true, implies_true, xnz0, xnz1, xnzb, xfz0, xfz1, xfzb, Option.isSome_some, if_true, if_false, xbF, xbT, and_false, false_and, Nat.zero_le, Nat.reduceEqDiff, Nat.reduceLeDiff, Nat.reduceAdd, Nat.reduceSub, xiT, xiF]
    exact this
theorem sp_L_cut (hK : KI κ) (hS : KS κ) (g : G2 κ ad m o d x A τ σ σ ah th) (hI : MI σ) (hN : NJ σ) (hL : LK σ τ) (hn : τ 33 0 < 512) {a : Int32} {b : Int32} {c : Int32} (hR : ∀ A' τ' ah', G2 κ ad m o d x A' τ' σ (σ) ah' th → LK (σ) τ' → τ' 33 0 ≤ τ 33 0 + 1 → (t_cut a b c = 0 → ∃ f, ah' o = some (.inl (3, 1, .inr (.inl f))) ∧ f 0 = (v_cut a b c).toInt64) → R (.inl (some (.int (nI (t_cut a b c))))) ah') : xm κ 209 [.ref x, .int a, .int b, .int c, .ref o] ah R := by
  have ex := g.2.2.1
  subst ex
  rw [en209]
  simp (disch := omega) only [e209_0, e209_0n, e209_2, e209_3, e209_3n, e209_4, e209_5, e209_6, xKv, xK0, xKx, xKHv, xKH0, xk_none, xk_i, xk_f, xk_l, xk_r, xk_n, xc_i, xc_f, xc_l, xc_d, xc_r, xc_n, xo_some, List.map_cons, List.map_nil, List.sum_cons, List.sum_nil, xnzn, xpn0, xpn1, xpnb, xpnn, i10, i00, true_imp_iff, false_imp_iff, not_true_eq_false, not_false_eq_true, true_and, and_true, implies_true, xnz0, xnz1, xnzb, xfz0, xfz1, xfzb, Option.isSome_some, if_true, if_false, xbF, xbT, and_false, false_and, Nat.zero_le, Nat.reduceEqDiff, Nat.reduceLeDiff, Nat.reduceAdd, Nat.reduceSub, xiT, xiF]
  rw [e209_7]
  refine ⟨⟨show (1 + (1 + 0) : Nat) ≤ 8 from by decide, ⟨_, g.2.1.x⟩, by decide, by decide⟩, sp_c_cut g.2.1 hL (fun ht A' τ' ah' c1 l1 n1 e1 => ?_) (fun ht => ?_)⟩
  · have g1 := g.cl c1 e1
    show xW _ _ _ _
    obtain ⟨f, hf⟩ := g1.2.2.2.1
    have fo : xal ah' o = some (1, f) := xal_of hf
    simp (disch := omega) only [e209_10, e209_11, e209_12, e209_15, e209_15n, e209_17, e209_18, e209_19, e209_20, xKv, xK0, xKx, xKHv, xKH0, xk_none, xk_i, xk_f, xk_l, xk_r, xk_n, xc_i, xc_f, xc_l, xc_d, xc_r, xc_n, xo_some, List.map_cons, List.map_nil, List.sum_cons, List.sum_nil, xnzn, xpn0, xpn1, xpnb, xpnn, i10, i00, true_imp_iff, false_imp_iff, not_true_eq_false, not_false_eq_true, true_and, and_true, implies_true, xnz0, xnz1, xnzb, xfz0, xfz1, xfzb, Option.isSome_some, if_true, if_false, xbF, xbT, and_false, false_and, Nat.zero_le, Nat.reduceEqDiff, Nat.reduceLeDiff, Nat.reduceAdd, Nat.reduceSub, xiT, xiF, fo, vp01]
    have := hR _ _ _ (g1.out (vp_updL f (0 : Int32).toNatClampNeg (v_cut a b c).toInt64)) l1 n1 (fun _ => ⟨_, xup_self _ _ _, vpL0⟩)
    rw [ht] at this
    exact this
  · have := hR A τ ah g hL (by omega) (fun q => absurd (ht.symm.trans q) (by decide))
    rw [ht] at this
    refine ⟨15, rfl, fun q => ?_⟩
    simp (disch := omega) only [e209_15, e209_15n, e209_17, e209_18, xKv, xK0, xKx, xKHv, xKH0, xk_none, xk_i, xk_f, xk_l, xk_r, xk_n, xc_i, xc_f, xc_l, xc_d, xc_r, xc_n, xo_some, List.map_cons, List.map_nil, List.sum_cons, List.sum_nil, xnzn, xpn0, xpn1, xpnb, xpnn, i10, i00, true_imp_iff, false_imp_iff, not_true_eq_false, not_false_eq_true, true_and, and_true, implies_true, xnz0, xnz1, xnzb, xfz0, xfz1, xfzb, Option.isSome_some, if_true, if_false, xbF, xbT, and_false, false_and, Nat.zero_le, Nat.reduceEqDiff, Nat.reduceLeDiff, Nat.reduceAdd, Nat.reduceSub, xiT, xiF]
    exact this
theorem sp_L_window (hK : KI κ) (hS : KS κ) (g : G2 κ ad m o d x A τ σ σ ah th) (hI : MI σ) (hN : NJ σ) (hL : LK σ τ) (hn : τ 33 0 < 512) {a : Int32} {b : Int32} (hR : ∀ A' τ' ah', G2 κ ad m o d x A' τ' σ (s_window σ a b) ah' th → LK (s_window σ a b) τ' → τ' 33 0 ≤ τ 33 0 + 1 → (t_window a b = 0 → ∃ f, ah' o = some (.inl (3, 1, .inr (.inl f))) ∧ f 0 = (v_window σ a b).toInt64) → R (.inl (some (.int (nI (t_window a b))))) ah') : xm κ 210 [.ref x, .int a, .int b, .ref o] ah R := by
  have ex := g.2.2.1
  subst ex
  have hs : ¬ t_window a b = 0 → s_window σ a b = σ := fun h => by
    unfold s_window
    exact xi_f h
  rw [en210]
  simp (disch := omega) only [e210_0, e210_0n, e210_1, e210_2, e210_2n, e210_3, e210_4, xKv, xK0, xKx, xKHv, xKH0, xk_none, xk_i, xk_f, xk_l, xk_r, xk_n, xc_i, xc_f, xc_l, xc_d, xc_r, xc_n, xo_some, List.map_cons, List.map_nil, List.sum_cons, List.sum_nil, xnzn, xpn0, xpn1, xpnb, xpnn, i10, i00, true_imp_iff, false_imp_iff, not_true_eq_false, not_false_eq_true, true_and, and_true, implies_true, xnz0, xnz1, xnzb, xfz0, xfz1, xfzb, Option.isSome_some, if_true, if_false, xbF, xbT, and_false, false_and, Nat.zero_le, Nat.reduceEqDiff, Nat.reduceLeDiff, Nat.reduceAdd, Nat.reduceSub, xiT, xiF]
  rw [e210_5]
  refine ⟨⟨show (1 + (1 + 0) : Nat) ≤ 8 from by decide, ⟨_, g.2.1.x⟩, by decide, by decide⟩, sp_c_window g.2.1 hL (fun ht A' τ' ah' c1 l1 n1 e1 => ?_) (fun ht => ?_) (fun ht => ?_)⟩
  · have g1 := g.cl c1 e1
    show xW _ _ _ _
    obtain ⟨f, hf⟩ := g1.2.2.2.1
    have fo : xal ah' o = some (1, f) := xal_of hf
    simp (disch := omega) only [e210_8, e210_9, e210_10, e210_13, e210_13n, e210_15, e210_16, e210_17, e210_17n, e210_19, e210_20, e210_21, e210_22, xKv, xK0, xKx, xKHv, xKH0, xk_none, xk_i, xk_f, xk_l, xk_r, xk_n, xc_i, xc_f, xc_l, xc_d, xc_r, xc_n, xo_some, List.map_cons, List.map_nil, List.sum_cons, List.sum_nil, xnzn, xpn0, xpn1, xpnb, xpnn, i10, i00, true_imp_iff, false_imp_iff, not_true_eq_false, not_false_eq_true, true_and, and_true, implies_true, xnz0, xnz1, xnzb, xfz0, xfz1, xfzb, Option.isSome_some, if_true, if_false, xbF, xbT, and_false, false_and, Nat.zero_le, Nat.reduceEqDiff, Nat.reduceLeDiff, Nat.reduceAdd, Nat.reduceSub, xiT, xiF, fo, vp01]
    have := hR _ _ _ (g1.out (vp_updL f (0 : Int32).toNatClampNeg (v_window σ a b).toInt64)) l1 n1 (fun _ => ⟨_, xup_self _ _ _, vpL0⟩)
    rw [ht] at this
    exact this
  · have e9 := hs (by rw [ht]; decide)
    have := hR A τ ah (g.st rfl e9) (by rw [e9]; exact hL) (by omega) (fun q => absurd (ht.symm.trans q) (by decide))
    rw [ht] at this
    refine ⟨13, rfl, fun q => ?_⟩
    simp (disch := omega) only [e210_13, e210_13n, e210_15, e210_16, xKv, xK0, xKx, xKHv, xKH0, xk_none, xk_i, xk_f, xk_l, xk_r, xk_n, xc_i, xc_f, xc_l, xc_d, xc_r, xc_n, xo_some, List.map_cons, List.map_nil, List.sum_cons, List.sum_nil, xnzn, xpn0, xpn1, xpnb, xpnn, i10, i00, true_imp_iff, false_imp_iff, not_true_eq_false, not_false_eq_true, true_and, and_true, implies_true, xnz0, xnz1, xnzb, xfz0, xfz1, xfzb, Option.isSome_some, if_true, if_false, xbF, xbT, and_false, false_and, Nat.zero_le, Nat.reduceEqDiff, Nat.reduceLeDiff, Nat.reduceAdd, Nat.reduceSub, xiT, xiF]
    exact this
  · have e9 := hs (by rw [ht]; decide)
    have := hR A τ ah (g.st rfl e9) (by rw [e9]; exact hL) (by omega) (fun q => absurd (ht.symm.trans q) (by decide))
    rw [ht] at this
    refine ⟨17, rfl, fun q => ?_⟩
    simp (disch := omega) only [e210_17, e210_17n, e210_19, e210_20, xKv, xK0, xKx, xKHv, xKH0, xk_none, xk_i, xk_f, xk_l, xk_r, xk_n, xc_i, xc_f, xc_l, xc_d, xc_r, xc_n, xo_some, List.map_cons, List.map_nil, List.sum_cons, List.sum_nil, xnzn, xpn0, xpn1, xpnb, xpnn, i10, i00, true_imp_iff, false_imp_iff, not_true_eq_false, not_false_eq_true, true_and, and_true, implies_true, xnz0, xnz1, xnzb, xfz0, xfz1, xfzb, Option.isSome_some, if_true, if_false, xbF, xbT, and_false, false_and, Nat.zero_le, Nat.reduceEqDiff, Nat.reduceLeDiff, Nat.reduceAdd, Nat.reduceSub, xiT, xiF]
    exact this
theorem sp_L_patch (hK : KI κ) (hS : KS κ) (g : G2 κ ad m o d x A τ σ σ ah th) (hI : MI σ) (hN : NJ σ) (hL : LK σ τ) (hn : τ 33 0 < 512) {y : Int64} (hR : ∀ A' τ' ah', G2 κ ad m o d x A' τ' σ (s_patch σ y) ah' th → LK (s_patch σ y) τ' → τ' 33 0 ≤ τ 33 0 + 1 → (t_patch σ y = 0 → ∃ f, ah' o = some (.inl (3, 1, .inr (.inl f))) ∧ f 0 = (v_patch σ y).toInt64) → R (.inl (some (.int (nI (t_patch σ y))))) ah') : xm κ 211 [.ref x, .long y, .ref o] ah R := by
  have ex := g.2.2.1
  subst ex
  have hs : ¬ t_patch σ y = 0 → s_patch σ y = σ := fun h => by
    unfold s_patch
    exact xi_f h
  rw [en211]
  simp (disch := omega) only [e211_0, e211_0n, e211_1, e211_2, e211_2n, e211_3, xKv, xK0, xKx, xKHv, xKH0, xk_none, xk_i, xk_f, xk_l, xk_r, xk_n, xc_i, xc_f, xc_l, xc_d, xc_r, xc_n, xo_some, List.map_cons, List.map_nil, List.sum_cons, List.sum_nil, xnzn, xpn0, xpn1, xpnb, xpnn, i10, i00, true_imp_iff, false_imp_iff, not_true_eq_false, not_false_eq_true, true_and, and_true, implies_true, xnz0, xnz1, xnzb, xfz0, xfz1, xfzb, Option.isSome_some, if_true, if_false, xbF, xbT, and_false, false_and, Nat.zero_le, Nat.reduceEqDiff, Nat.reduceLeDiff, Nat.reduceAdd, Nat.reduceSub, xiT, xiF]
  rw [e211_4]
  refine ⟨⟨show (1 + (1 + 0) : Nat) ≤ 8 from by decide, ⟨_, g.2.1.x⟩, by decide, by decide⟩, sp_c_patch g.2.1 hI hL (fun ht A' τ' ah' c1 l1 n1 e1 => ?_) (fun ht => ?_) (fun ht => ?_)⟩
  · have g1 := g.cl c1 e1
    show xW _ _ _ _
    obtain ⟨f, hf⟩ := g1.2.2.2.1
    have fo : xal ah' o = some (1, f) := xal_of hf
    simp (disch := omega) only [e211_7, e211_8, e211_9, e211_12, e211_12n, e211_14, e211_15, e211_16, e211_16n, e211_18, e211_19, e211_20, e211_21, xKv, xK0, xKx, xKHv, xKH0, xk_none, xk_i, xk_f, xk_l, xk_r, xk_n, xc_i, xc_f, xc_l, xc_d, xc_r, xc_n, xo_some, List.map_cons, List.map_nil, List.sum_cons, List.sum_nil, xnzn, xpn0, xpn1, xpnb, xpnn, i10, i00, true_imp_iff, false_imp_iff, not_true_eq_false, not_false_eq_true, true_and, and_true, implies_true, xnz0, xnz1, xnzb, xfz0, xfz1, xfzb, Option.isSome_some, if_true, if_false, xbF, xbT, and_false, false_and, Nat.zero_le, Nat.reduceEqDiff, Nat.reduceLeDiff, Nat.reduceAdd, Nat.reduceSub, xiT, xiF, fo, vp01]
    have := hR _ _ _ (g1.out (vp_updL f (0 : Int32).toNatClampNeg (v_patch σ y).toInt64)) l1 n1 (fun _ => ⟨_, xup_self _ _ _, vpL0⟩)
    rw [ht] at this
    exact this
  · have e9 := hs (by rw [ht]; decide)
    have := hR A τ ah (g.st rfl e9) (by rw [e9]; exact hL) (by omega) (fun q => absurd (ht.symm.trans q) (by decide))
    rw [ht] at this
    refine ⟨12, rfl, fun q => ?_⟩
    simp (disch := omega) only [e211_12, e211_12n, e211_14, e211_15, xKv, xK0, xKx, xKHv, xKH0, xk_none, xk_i, xk_f, xk_l, xk_r, xk_n, xc_i, xc_f, xc_l, xc_d, xc_r, xc_n, xo_some, List.map_cons, List.map_nil, List.sum_cons, List.sum_nil, xnzn, xpn0, xpn1, xpnb, xpnn, i10, i00, true_imp_iff, false_imp_iff, not_true_eq_false, not_false_eq_true, true_and, and_true, implies_true, xnz0, xnz1, xnzb, xfz0, xfz1, xfzb, Option.isSome_some, if_true, if_false, xbF, xbT, and_false, false_and, Nat.zero_le, Nat.reduceEqDiff, Nat.reduceLeDiff, Nat.reduceAdd, Nat.reduceSub, xiT, xiF]
    exact this
  · have e9 := hs (by rw [ht]; decide)
    have := hR A τ ah (g.st rfl e9) (by rw [e9]; exact hL) (by omega) (fun q => absurd (ht.symm.trans q) (by decide))
    rw [ht] at this
    refine ⟨16, rfl, fun q => ?_⟩
    simp (disch := omega) only [e211_16, e211_16n, e211_18, e211_19, xKv, xK0, xKx, xKHv, xKH0, xk_none, xk_i, xk_f, xk_l, xk_r, xk_n, xc_i, xc_f, xc_l, xc_d, xc_r, xc_n, xo_some, List.map_cons, List.map_nil, List.sum_cons, List.sum_nil, xnzn, xpn0, xpn1, xpnb, xpnn, i10, i00, true_imp_iff, false_imp_iff, not_true_eq_false, not_false_eq_true, true_and, and_true, implies_true, xnz0, xnz1, xnzb, xfz0, xfz1, xfzb, Option.isSome_some, if_true, if_false, xbF, xbT, and_false, false_and, Nat.zero_le, Nat.reduceEqDiff, Nat.reduceLeDiff, Nat.reduceAdd, Nat.reduceSub, xiT, xiF]
    exact this
theorem sp_L_paint (hK : KI κ) (hS : KS κ) (g : G2 κ ad m o d x A τ σ σ ah th) (hI : MI σ) (hN : NJ σ) (hL : LK σ τ) (hn : τ 33 0 < 512) {a : Int32} {b : Int32} {y : Int64} {sc : Prop} (hR : ∀ A' τ' ah', G2 κ ad m o d x A' τ' σ (s_paint σ a b y sc) ah' th → LK (s_paint σ a b y sc) τ' → τ' 33 0 ≤ τ 33 0 + 1 → (t_paint σ a b sc = 0 → ∃ f, ah' o = some (.inl (3, 1, .inr (.inl f))) ∧ f 0 = (v_paint σ a b y sc).toInt64) → R (.inl (some (.int (nI (t_paint σ a b sc))))) ah') : xm κ 212 [.ref x, .int a, .int b, .long y, .int (xb sc), .ref o] ah R := by
  have ex := g.2.2.1
  subst ex
  have hs : ¬ t_paint σ a b sc = 0 → s_paint σ a b y sc = σ := fun h => by
    unfold s_paint
    exact xi_f h
  rw [en212]
  simp (disch := omega) only [e212_0, e212_0n, e212_2, e212_3, e212_3n, e212_4, e212_5, e212_6, e212_7, xKv, xK0, xKx, xKHv, xKH0, xk_none, xk_i, xk_f, xk_l, xk_r, xk_n, xc_i, xc_f, xc_l, xc_d, xc_r, xc_n, xo_some, List.map_cons, List.map_nil, List.sum_cons, List.sum_nil, xnzn, xpn0, xpn1, xpnb, xpnn, i10, i00, true_imp_iff, false_imp_iff, not_true_eq_false, not_false_eq_true, true_and, and_true, implies_true, xnz0, xnz1, xnzb, xfz0, xfz1, xfzb, Option.isSome_some, if_true, if_false, xbF, xbT, and_false, false_and, Nat.zero_le, Nat.reduceEqDiff, Nat.reduceLeDiff, Nat.reduceAdd, Nat.reduceSub, xiT, xiF]
  rw [e212_9]
  refine ⟨⟨show (1 + (1 + 0) : Nat) ≤ 8 from by decide, ⟨_, g.2.1.x⟩, by decide, by decide⟩, sp_c_paint g.2.1 hI hL hN.2.1 (fun ht A' τ' ah' c1 l1 n1 e1 => ?_) (fun ht => ?_) (fun ht => ?_)⟩
  · have g1 := g.cl c1 e1
    show xW _ _ _ _
    obtain ⟨f, hf⟩ := g1.2.2.2.1
    have fo : xal ah' o = some (1, f) := xal_of hf
    simp (disch := omega) only [e212_12, e212_13, e212_14, e212_17, e212_17n, e212_19, e212_20, e212_21, e212_21n, e212_23, e212_24, e212_25, e212_26, xKv, xK0, xKx, xKHv, xKH0, xk_none, xk_i, xk_f, xk_l, xk_r, xk_n, xc_i, xc_f, xc_l, xc_d, xc_r, xc_n, xo_some, List.map_cons, List.map_nil, List.sum_cons, List.sum_nil, xnzn, xpn0, xpn1, xpnb, xpnn, i10, i00, true_imp_iff, false_imp_iff, not_true_eq_false, not_false_eq_true, true_and, and_true, implies_true, xnz0, xnz1, xnzb, xfz0, xfz1, xfzb, Option.isSome_some, if_true, if_false, xbF, xbT, and_false, false_and, Nat.zero_le, Nat.reduceEqDiff, Nat.reduceLeDiff, Nat.reduceAdd, Nat.reduceSub, xiT, xiF, fo, vp01]
    have := hR _ _ _ (g1.out (vp_updL f (0 : Int32).toNatClampNeg (v_paint σ a b y sc).toInt64)) l1 n1 (fun _ => ⟨_, xup_self _ _ _, vpL0⟩)
    rw [ht] at this
    exact this
  · have e9 := hs (by rw [ht]; decide)
    have := hR A τ ah (g.st rfl e9) (by rw [e9]; exact hL) (by omega) (fun q => absurd (ht.symm.trans q) (by decide))
    rw [ht] at this
    refine ⟨17, rfl, fun q => ?_⟩
    simp (disch := omega) only [e212_17, e212_17n, e212_19, e212_20, xKv, xK0, xKx, xKHv, xKH0, xk_none, xk_i, xk_f, xk_l, xk_r, xk_n, xc_i, xc_f, xc_l, xc_d, xc_r, xc_n, xo_some, List.map_cons, List.map_nil, List.sum_cons, List.sum_nil, xnzn, xpn0, xpn1, xpnb, xpnn, i10, i00, true_imp_iff, false_imp_iff, not_true_eq_false, not_false_eq_true, true_and, and_true, implies_true, xnz0, xnz1, xnzb, xfz0, xfz1, xfzb, Option.isSome_some, if_true, if_false, xbF, xbT, and_false, false_and, Nat.zero_le, Nat.reduceEqDiff, Nat.reduceLeDiff, Nat.reduceAdd, Nat.reduceSub, xiT, xiF]
    exact this
  · have e9 := hs (by rw [ht]; decide)
    have := hR A τ ah (g.st rfl e9) (by rw [e9]; exact hL) (by omega) (fun q => absurd (ht.symm.trans q) (by decide))
    rw [ht] at this
    refine ⟨21, rfl, fun q => ?_⟩
    simp (disch := omega) only [e212_21, e212_21n, e212_23, e212_24, xKv, xK0, xKx, xKHv, xKH0, xk_none, xk_i, xk_f, xk_l, xk_r, xk_n, xc_i, xc_f, xc_l, xc_d, xc_r, xc_n, xo_some, List.map_cons, List.map_nil, List.sum_cons, List.sum_nil, xnzn, xpn0, xpn1, xpnb, xpnn, i10, i00, true_imp_iff, false_imp_iff, not_true_eq_false, not_false_eq_true, true_and, and_true, implies_true, xnz0, xnz1, xnzb, xfz0, xfz1, xfzb, Option.isSome_some, if_true, if_false, xbF, xbT, and_false, false_and, Nat.zero_le, Nat.reduceEqDiff, Nat.reduceLeDiff, Nat.reduceAdd, Nat.reduceSub, xiT, xiF]
    exact this
theorem sp_L_ofCell (hK : KI κ) (hS : KS κ) (g : G2 κ ad m o d x A τ σ σ ah th) (hI : MI σ) (hN : NJ σ) (hL : LK σ τ) (hn : τ 33 0 < 512) {a : Int32} {b : Int32} (hR : ∀ A' τ' ah', G2 κ ad m o d x A' τ' σ (σ) ah' th → LK (σ) τ' → τ' 33 0 ≤ τ 33 0 + 1 → (t_ofCell a b = 0 → ∃ f, ah' o = some (.inl (3, 1, .inr (.inl f))) ∧ f 0 = (v_ofCell σ a b).toInt64) → R (.inl (some (.int (nI (t_ofCell a b))))) ah') : xm κ 213 [.ref x, .int a, .int b, .ref o] ah R := by
  have ex := g.2.2.1
  subst ex
  rw [en213]
  simp (disch := omega) only [e213_0, e213_0n, e213_1, e213_2, e213_2n, e213_3, e213_4, xKv, xK0, xKx, xKHv, xKH0, xk_none, xk_i, xk_f, xk_l, xk_r, xk_n, xc_i, xc_f, xc_l, xc_d, xc_r, xc_n, xo_some, List.map_cons, List.map_nil, List.sum_cons, List.sum_nil, xnzn, xpn0, xpn1, xpnb, xpnn, i10, i00, true_imp_iff, false_imp_iff, not_true_eq_false, not_false_eq_true, true_and, and_true, implies_true, xnz0, xnz1, xnzb, xfz0, xfz1, xfzb, Option.isSome_some, if_true, if_false, xbF, xbT, and_false, false_and, Nat.zero_le, Nat.reduceEqDiff, Nat.reduceLeDiff, Nat.reduceAdd, Nat.reduceSub, xiT, xiF]
  rw [e213_5]
  refine ⟨⟨show (1 + (1 + 0) : Nat) ≤ 8 from by decide, ⟨_, g.2.1.x⟩, by decide, by decide⟩, sp_c_ofCell g.2.1 hI hL (fun ht A' τ' ah' c1 l1 n1 e1 => ?_) (fun ht => ?_) (fun ht => ?_)⟩
  · have g1 := g.cl c1 e1
    show xW _ _ _ _
    obtain ⟨f, hf⟩ := g1.2.2.2.1
    have fo : xal ah' o = some (1, f) := xal_of hf
    simp (disch := omega) only [e213_8, e213_9, e213_10, e213_13, e213_13n, e213_15, e213_16, e213_17, e213_17n, e213_19, e213_20, e213_21, e213_22, xKv, xK0, xKx, xKHv, xKH0, xk_none, xk_i, xk_f, xk_l, xk_r, xk_n, xc_i, xc_f, xc_l, xc_d, xc_r, xc_n, xo_some, List.map_cons, List.map_nil, List.sum_cons, List.sum_nil, xnzn, xpn0, xpn1, xpnb, xpnn, i10, i00, true_imp_iff, false_imp_iff, not_true_eq_false, not_false_eq_true, true_and, and_true, implies_true, xnz0, xnz1, xnzb, xfz0, xfz1, xfzb, Option.isSome_some, if_true, if_false, xbF, xbT, and_false, false_and, Nat.zero_le, Nat.reduceEqDiff, Nat.reduceLeDiff, Nat.reduceAdd, Nat.reduceSub, xiT, xiF, fo, vp01]
    have := hR _ _ _ (g1.out (vp_updL f (0 : Int32).toNatClampNeg (v_ofCell σ a b).toInt64)) l1 n1 (fun _ => ⟨_, xup_self _ _ _, vpL0⟩)
    rw [ht] at this
    exact this
  · have := hR A τ ah g hL (by omega) (fun q => absurd (ht.symm.trans q) (by decide))
    rw [ht] at this
    refine ⟨13, rfl, fun q => ?_⟩
    simp (disch := omega) only [e213_13, e213_13n, e213_15, e213_16, xKv, xK0, xKx, xKHv, xKH0, xk_none, xk_i, xk_f, xk_l, xk_r, xk_n, xc_i, xc_f, xc_l, xc_d, xc_r, xc_n, xo_some, List.map_cons, List.map_nil, List.sum_cons, List.sum_nil, xnzn, xpn0, xpn1, xpnb, xpnn, i10, i00, true_imp_iff, false_imp_iff, not_true_eq_false, not_false_eq_true, true_and, and_true, implies_true, xnz0, xnz1, xnzb, xfz0, xfz1, xfzb, Option.isSome_some, if_true, if_false, xbF, xbT, and_false, false_and, Nat.zero_le, Nat.reduceEqDiff, Nat.reduceLeDiff, Nat.reduceAdd, Nat.reduceSub, xiT, xiF]
    exact this
  · have := hR A τ ah g hL (by omega) (fun q => absurd (ht.symm.trans q) (by decide))
    rw [ht] at this
    refine ⟨17, rfl, fun q => ?_⟩
    simp (disch := omega) only [e213_17, e213_17n, e213_19, e213_20, xKv, xK0, xKx, xKHv, xKH0, xk_none, xk_i, xk_f, xk_l, xk_r, xk_n, xc_i, xc_f, xc_l, xc_d, xc_r, xc_n, xo_some, List.map_cons, List.map_nil, List.sum_cons, List.sum_nil, xnzn, xpn0, xpn1, xpnb, xpnn, i10, i00, true_imp_iff, false_imp_iff, not_true_eq_false, not_false_eq_true, true_and, and_true, implies_true, xnz0, xnz1, xnzb, xfz0, xfz1, xfzb, Option.isSome_some, if_true, if_false, xbF, xbT, and_false, false_and, Nat.zero_le, Nat.reduceEqDiff, Nat.reduceLeDiff, Nat.reduceAdd, Nat.reduceSub, xiT, xiF]
    exact this
theorem sp_L_over (hK : KI κ) (hS : KS κ) (g : G2 κ ad m o d x A τ σ σ ah th) (hI : MI σ) (hN : NJ σ) (hL : LK σ τ) (hn : τ 33 0 < 512) {a : Int32} (hR : ∀ A' τ' ah', G2 κ ad m o d x A' τ' σ (σ) ah' th → LK (σ) τ' → τ' 33 0 ≤ τ 33 0 + 1 → (t_over σ a = 0 → ∃ f, ah' o = some (.inl (3, 1, .inr (.inl f))) ∧ f 0 = (v_over σ a).toInt64) → R (.inl (some (.int (nI (t_over σ a))))) ah') : xm κ 214 [.ref x, .int a, .ref o] ah R := by
  have ex := g.2.2.1
  subst ex
  rw [en214]
  simp (disch := omega) only [e214_0, e214_0n, e214_1, e214_2, e214_2n, e214_3, xKv, xK0, xKx, xKHv, xKH0, xk_none, xk_i, xk_f, xk_l, xk_r, xk_n, xc_i, xc_f, xc_l, xc_d, xc_r, xc_n, xo_some, List.map_cons, List.map_nil, List.sum_cons, List.sum_nil, xnzn, xpn0, xpn1, xpnb, xpnn, i10, i00, true_imp_iff, false_imp_iff, not_true_eq_false, not_false_eq_true, true_and, and_true, implies_true, xnz0, xnz1, xnzb, xfz0, xfz1, xfzb, Option.isSome_some, if_true, if_false, xbF, xbT, and_false, false_and, Nat.zero_le, Nat.reduceEqDiff, Nat.reduceLeDiff, Nat.reduceAdd, Nat.reduceSub, xiT, xiF]
  rw [e214_4]
  refine ⟨⟨show (1 + (1 + 0) : Nat) ≤ 8 from by decide, ⟨_, g.2.1.x⟩, by decide, by decide⟩, sp_c_over g.2.1 hI hL (fun ht A' τ' ah' c1 l1 n1 e1 => ?_) (fun ht => ?_)⟩
  · have g1 := g.cl c1 e1
    show xW _ _ _ _
    obtain ⟨f, hf⟩ := g1.2.2.2.1
    have fo : xal ah' o = some (1, f) := xal_of hf
    simp (disch := omega) only [e214_7, e214_8, e214_9, e214_12, e214_12n, e214_13, e214_14, e214_15, e214_16, xKv, xK0, xKx, xKHv, xKH0, xk_none, xk_i, xk_f, xk_l, xk_r, xk_n, xc_i, xc_f, xc_l, xc_d, xc_r, xc_n, xo_some, List.map_cons, List.map_nil, List.sum_cons, List.sum_nil, xnzn, xpn0, xpn1, xpnb, xpnn, i10, i00, true_imp_iff, false_imp_iff, not_true_eq_false, not_false_eq_true, true_and, and_true, implies_true, xnz0, xnz1, xnzb, xfz0, xfz1, xfzb, Option.isSome_some, if_true, if_false, xbF, xbT, and_false, false_and, Nat.zero_le, Nat.reduceEqDiff, Nat.reduceLeDiff, Nat.reduceAdd, Nat.reduceSub, xiT, xiF, fo, vp01]
    have := hR _ _ _ (g1.out (vp_updL f (0 : Int32).toNatClampNeg (v_over σ a).toInt64)) l1 n1 (fun _ => ⟨_, xup_self _ _ _, vpL0⟩)
    rw [ht] at this
    exact this
  · have := hR A τ ah g hL (by omega) (fun q => absurd (ht.symm.trans q) (by decide))
    rw [ht] at this
    refine ⟨12, rfl, fun q => ?_⟩
    simp (disch := omega) only [e214_12, e214_12n, e214_13, e214_14, xKv, xK0, xKx, xKHv, xKH0, xk_none, xk_i, xk_f, xk_l, xk_r, xk_n, xc_i, xc_f, xc_l, xc_d, xc_r, xc_n, xo_some, List.map_cons, List.map_nil, List.sum_cons, List.sum_nil, xnzn, xpn0, xpn1, xpnb, xpnn, i10, i00, true_imp_iff, false_imp_iff, not_true_eq_false, not_false_eq_true, true_and, and_true, implies_true, xnz0, xnz1, xnzb, xfz0, xfz1, xfzb, Option.isSome_some, if_true, if_false, xbF, xbT, and_false, false_and, Nat.zero_le, Nat.reduceEqDiff, Nat.reduceLeDiff, Nat.reduceAdd, Nat.reduceSub, xiT, xiF]
    exact this
theorem sp_L_tells (hK : KI κ) (hS : KS κ) (g : G2 κ ad m o d x A τ σ σ ah th) (hI : MI σ) (hN : NJ σ) (hL : LK σ τ) (hn : τ 33 0 < 512) {a : Int32} {b : Int32} {c : Int32} {p : Int32} {q : Int32} {r : Int32} (hR : ∀ A' τ' ah', G2 κ ad m o d x A' τ' σ (σ) ah' th → LK (σ) τ' → τ' 33 0 ≤ τ 33 0 + 1 → (t_tells a b c p q r = 0 → ∃ f, ah' o = some (.inl (3, 1, .inr (.inl f))) ∧ f 0 = (v_tells a b c p q r).toInt64) → R (.inl (some (.int (nI (t_tells a b c p q r))))) ah') : xm κ 215 [.ref x, .int a, .int b, .int c, .int p, .int q, .int r, .ref o] ah R := by
  have ex := g.2.2.1
  subst ex
  rw [en215]
  simp (disch := omega) only [e215_0, e215_0n, e215_2, e215_3, e215_3n, e215_4, e215_5, e215_6, e215_7, e215_9, e215_11, xKv, xK0, xKx, xKHv, xKH0, xk_none, xk_i, xk_f, xk_l, xk_r, xk_n, xc_i, xc_f, xc_l, xc_d, xc_r, xc_n, xo_some, List.map_cons, List.map_nil, List.sum_cons, List.sum_nil, xnzn, xpn0, xpn1, xpnb, xpnn, i10, i00, true_imp_iff, false_imp_iff, not_true_eq_false, not_false_eq_true, true_and, and_true, implies_true, xnz0, xnz1, xnzb, xfz0, xfz1, xfzb, Option.isSome_some, if_true, if_false, xbF, xbT, and_false, false_and, Nat.zero_le, Nat.reduceEqDiff, Nat.reduceLeDiff, Nat.reduceAdd, Nat.reduceSub, xiT, xiF]
  rw [e215_13]
  refine ⟨⟨show (1 + (1 + 0) : Nat) ≤ 8 from by decide, ⟨_, g.2.1.x⟩, by decide, by decide⟩, sp_c_tells g.2.1 hL (fun ht A' τ' ah' c1 l1 n1 e1 => ?_) (fun ht => ?_)⟩
  · have g1 := g.cl c1 e1
    show xW _ _ _ _
    obtain ⟨f, hf⟩ := g1.2.2.2.1
    have fo : xal ah' o = some (1, f) := xal_of hf
    simp (disch := omega) only [e215_16, e215_17, e215_18, e215_21, e215_21n, e215_23, e215_24, e215_25, e215_26, xKv, xK0, xKx, xKHv, xKH0, xk_none, xk_i, xk_f, xk_l, xk_r, xk_n, xc_i, xc_f, xc_l, xc_d, xc_r, xc_n, xo_some, List.map_cons, List.map_nil, List.sum_cons, List.sum_nil, xnzn, xpn0, xpn1, xpnb, xpnn, i10, i00, true_imp_iff, false_imp_iff, not_true_eq_false, not_false_eq_true, true_and, and_true, implies_true, xnz0, xnz1, xnzb, xfz0, xfz1, xfzb, Option.isSome_some, if_true, if_false, xbF, xbT, and_false, false_and, Nat.zero_le, Nat.reduceEqDiff, Nat.reduceLeDiff, Nat.reduceAdd, Nat.reduceSub, xiT, xiF, fo, vp01]
    have := hR _ _ _ (g1.out (vp_updL f (0 : Int32).toNatClampNeg (v_tells a b c p q r).toInt64)) l1 n1 (fun _ => ⟨_, xup_self _ _ _, vpL0⟩)
    rw [ht] at this
    exact this
  · have := hR A τ ah g hL (by omega) (fun q => absurd (ht.symm.trans q) (by decide))
    rw [ht] at this
    refine ⟨21, rfl, fun q => ?_⟩
    simp (disch := omega) only [e215_21, e215_21n, e215_23, e215_24, xKv, xK0, xKx, xKHv, xKH0, xk_none, xk_i, xk_f, xk_l, xk_r, xk_n, xc_i, xc_f, xc_l, xc_d, xc_r, xc_n, xo_some, List.map_cons, List.map_nil, List.sum_cons, List.sum_nil, xnzn, xpn0, xpn1, xpnb, xpnn, i10, i00, true_imp_iff, false_imp_iff, not_true_eq_false, not_false_eq_true, true_and, and_true, implies_true, xnz0, xnz1, xnzb, xfz0, xfz1, xfzb, Option.isSome_some, if_true, if_false, xbF, xbT, and_false, false_and, Nat.zero_le, Nat.reduceEqDiff, Nat.reduceLeDiff, Nat.reduceAdd, Nat.reduceSub, xiT, xiF]
    exact this
theorem sp_L_bill (hK : KI κ) (hS : KS κ) (g : G2 κ ad m o d x A τ σ σ ah th) (hI : MI σ) (hN : NJ σ) (hL : LK σ τ) (hn : τ 33 0 < 512) {a : Int32} {b : Int32} {c : Int32} (hR : ∀ A' τ' ah', G2 κ ad m o d x A' τ' σ (σ) ah' th → LK (σ) τ' → τ' 33 0 ≤ τ 33 0 + 1 → (t_bill σ a b c = 0 → ∃ f, ah' o = some (.inl (3, 1, .inr (.inl f))) ∧ f 0 = (v_bill σ a b c).toInt64) → R (.inl (some (.int (nI (t_bill σ a b c))))) ah') : xm κ 216 [.ref x, .int a, .int b, .int c, .ref o] ah R := by
  have ex := g.2.2.1
  subst ex
  rw [en216]
  simp (disch := omega) only [e216_0, e216_0n, e216_2, e216_3, e216_3n, e216_4, e216_5, e216_6, xKv, xK0, xKx, xKHv, xKH0, xk_none, xk_i, xk_f, xk_l, xk_r, xk_n, xc_i, xc_f, xc_l, xc_d, xc_r, xc_n, xo_some, List.map_cons, List.map_nil, List.sum_cons, List.sum_nil, xnzn, xpn0, xpn1, xpnb, xpnn, i10, i00, true_imp_iff, false_imp_iff, not_true_eq_false, not_false_eq_true, true_and, and_true, implies_true, xnz0, xnz1, xnzb, xfz0, xfz1, xfzb, Option.isSome_some, if_true, if_false, xbF, xbT, and_false, false_and, Nat.zero_le, Nat.reduceEqDiff, Nat.reduceLeDiff, Nat.reduceAdd, Nat.reduceSub, xiT, xiF]
  rw [e216_7]
  refine ⟨⟨show (1 + (1 + 0) : Nat) ≤ 8 from by decide, ⟨_, g.2.1.x⟩, by decide, by decide⟩, sp_c_bill g.2.1 hI hL (fun ht A' τ' ah' c1 l1 n1 e1 => ?_) (fun ht => ?_) (fun ht => ?_)⟩
  · have g1 := g.cl c1 e1
    show xW _ _ _ _
    obtain ⟨f, hf⟩ := g1.2.2.2.1
    have fo : xal ah' o = some (1, f) := xal_of hf
    simp (disch := omega) only [e216_10, e216_11, e216_12, e216_15, e216_15n, e216_17, e216_18, e216_19, e216_19n, e216_21, e216_22, e216_23, e216_24, xKv, xK0, xKx, xKHv, xKH0, xk_none, xk_i, xk_f, xk_l, xk_r, xk_n, xc_i, xc_f, xc_l, xc_d, xc_r, xc_n, xo_some, List.map_cons, List.map_nil, List.sum_cons, List.sum_nil, xnzn, xpn0, xpn1, xpnb, xpnn, i10, i00, true_imp_iff, false_imp_iff, not_true_eq_false, not_false_eq_true, true_and, and_true, implies_true, xnz0, xnz1, xnzb, xfz0, xfz1, xfzb, Option.isSome_some, if_true, if_false, xbF, xbT, and_false, false_and, Nat.zero_le, Nat.reduceEqDiff, Nat.reduceLeDiff, Nat.reduceAdd, Nat.reduceSub, xiT, xiF, fo, vp01]
    have := hR _ _ _ (g1.out (vp_updL f (0 : Int32).toNatClampNeg (v_bill σ a b c).toInt64)) l1 n1 (fun _ => ⟨_, xup_self _ _ _, vpL0⟩)
    rw [ht] at this
    exact this
  · have := hR A τ ah g hL (by omega) (fun q => absurd (ht.symm.trans q) (by decide))
    rw [ht] at this
    refine ⟨15, rfl, fun q => ?_⟩
    simp (disch := omega) only [e216_15, e216_15n, e216_17, e216_18, xKv, xK0, xKx, xKHv, xKH0, xk_none, xk_i, xk_f, xk_l, xk_r, xk_n, xc_i, xc_f, xc_l, xc_d, xc_r, xc_n, xo_some, List.map_cons, List.map_nil, List.sum_cons, List.sum_nil, xnzn, xpn0, xpn1, xpnb, xpnn, i10, i00, true_imp_iff, false_imp_iff, not_true_eq_false, not_false_eq_true, true_and, and_true, implies_true, xnz0, xnz1, xnzb, xfz0, xfz1, xfzb, Option.isSome_some, if_true, if_false, xbF, xbT, and_false, false_and, Nat.zero_le, Nat.reduceEqDiff, Nat.reduceLeDiff, Nat.reduceAdd, Nat.reduceSub, xiT, xiF]
    exact this
  · have := hR A τ ah g hL (by omega) (fun q => absurd (ht.symm.trans q) (by decide))
    rw [ht] at this
    refine ⟨19, rfl, fun q => ?_⟩
    simp (disch := omega) only [e216_19, e216_19n, e216_21, e216_22, xKv, xK0, xKx, xKHv, xKH0, xk_none, xk_i, xk_f, xk_l, xk_r, xk_n, xc_i, xc_f, xc_l, xc_d, xc_r, xc_n, xo_some, List.map_cons, List.map_nil, List.sum_cons, List.sum_nil, xnzn, xpn0, xpn1, xpnb, xpnn, i10, i00, true_imp_iff, false_imp_iff, not_true_eq_false, not_false_eq_true, true_and, and_true, implies_true, xnz0, xnz1, xnzb, xfz0, xfz1, xfzb, Option.isSome_some, if_true, if_false, xbF, xbT, and_false, false_and, Nat.zero_le, Nat.reduceEqDiff, Nat.reduceLeDiff, Nat.reduceAdd, Nat.reduceSub, xiT, xiF]
    exact this
end
