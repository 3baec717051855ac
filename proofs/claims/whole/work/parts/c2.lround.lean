/-! the law's rounds (printed by wip/gen/gen54.py) -/
theorem xi_le {p : Prop} {a b n : Nat} (h1 : a ≤ n) (h2 : b ≤ n) : xi p a b ≤ n := by
  by_cases h : p
  · rw [xi_t h]; exact h1
  · rw [xi_f h]; exact h2
theorem tcN0 : (0 : Int32).toNatClampNeg = 0 := by decide
theorem nI_z {t : Nat} (h : t ≤ 3) : (nI t = 0) = (t = 0) := leq0 (by omega)
/-- what the round leaves -/
def LX (κ ad : Nat → Nat) (sb sL : Nat) (sx : Nat → Int32) (R : xR → xH → Prop) (m o d x i j k n : Nat) : Prop := ∀ (A τ σ : xS) (ah : xH) (th k' n' : Nat) (b6 b7 : Option Value), GI κ ad m o d x A τ σ ah th (j + 1) → k ≤ k' + 60 → n ≤ n' + 8000 → xW (TL κ sb sL sx) (xm κ) R (2106, [some (.ref sb), some (.ref x), some (.ref m), some (.ref o), some (.ref d), some (.int (nI i)), b6, b7], [], ah, k', n')
theorem dself {y : UInt64} (h : vf_n64 y) : (Op.cmpValue (FP.dcmp y y) .l = 0) = True := by
  have h1 := Jvm.Free.Fl.dcmp_of_noNaN64 (x := y) h
  refine eq_true ?_
  cases hr : FP.dcmp y y with
  | none => rw [hr] at h1; exact absurd h1 (by decide)
  | some v =>
    rw [hr] at h1
    cases v
    · exact absurd h1 (by decide)
    · rfl
    · exact absurd h1 (by decide)
theorem f2dN {v : UInt32} (h : vf_n32 v) : vf_n64 (FP.f2d v) := (Jvm.Free.Fl.noNaN_f2d v).mpr h
theorem mit_N {p q : Nat → Nat} (hp : ∀ i, 1 ≤ p i ∧ p i ≤ 100) (hq : ∀ i, 1 ≤ q i ∧ q i ≤ 100) : ∀ (n i : Nat) (f r : UInt32), vf_n32 f → vf_n32 (mit p q n i f r) := by
  intro n
  induction n with
  | zero => intro i f r h; exact h
  | succ n ih =>
    intro i f r h
    by_cases h2 : FP.fcmp (mfar (mits (p i) (q i))) r = some .gt
    · have e : mit p q (n + 1) i f r = _ := xi_t h2
      rw [e]
      exact ih _ _ _ (mitsN (hp i).1 (by have := hp i; omega))
    · have e : mit p q (n + 1) i f r = _ := xi_f h2
      rw [e]
      exact ih _ _ _ h
theorem mitN {σ : xS} (hI : MI σ) {a b : Int32} (h : t_mitre σ a b = 0) : vf_n32 (v_mitre σ a b) := by
  have hP := hI.P
  unfold v_mitre
  rw [xi_t h]
  obtain ⟨h1, h2⟩ := (xi_0 h (by decide)).1
  obtain ⟨ja, hja, rfl⟩ := xin_of (by omega) h1
  obtain ⟨jb, hjb, rfl⟩ := xin_of (by omega) h2
  rw [nI_cl (by omega), nI_cl (by omega)]
  exact mit_N (fun i => dpa_1 hI hja i) (fun i => dpa_1 hI hjb i) _ _ _ _ halfFin.noNaN
theorem stepN {a b : Int32} (h : t_fits a b = 0) : vf_n32 (v_step a b) := by
  unfold v_step
  rw [xi_t h]
  obtain ⟨ha1, ha2⟩ := (xi_0 h (by decide)).1
  obtain ⟨ja, hja, hja2, rfl⟩ := xrg_of (by decide) ha1
  obtain ⟨jb, hjb, hjb2, rfl⟩ := xrg_of (by decide) ha2
  rw [nI_cl (by omega), nI_cl (by omega)]
  have hT : 1 ≤ nT ja jb ∧ nT ja jb ≤ 100001 := by
    have := Nat.div_le_self ja jb
    unfold nT
    generalize ja / jb = q at *
    split
    · omega
    · split <;> omega
  have hn : nI (nT ja jb) ≠ 0 := by
    rw [Ne, leq0 (by omega)]
    omega
  exact of_eq_true (xfn hn)
theorem MI_25 {σ σ2 : xS} (h : MI σ) (e : ∀ c i, c ≠ 25 → σ2 c i = σ c i) : MI σ2 := by
  unfold MI at h ⊢
  simp (disch := decide) only [e]
  exact h
section
variable {κ ad : Nat → Nat} {m o d x i j k n th sb sL : Nat} {sx : Nat → Int32} {A τ σ : xS} {ah : xH} {R : xR → xH → Prop} {a6 a7 : Option Value}
theorem rd_wall (hK : KI κ) (hS : KS κ) (g : GI κ ad m o d x A τ σ ah th j) (hj : j < 512) (hk : 60 ≤ k) (hn : 8000 ≤ n) (v1 : vp_in (nI i + 1) sL = True) (v2 : vp_in (nI i + 2) sL = True) (v3 : vp_in (nI i + 3) sL = True) (v4 : vp_in (nI i + 4) sL = True) (v5 : vp_in (nI i + 5) sL = True) (v6 : vp_in (nI i + 6) sL = True) (hX : LX κ ad sb sL sx R m o d x i j k n) : xW (TL κ sb sL sx) (xm κ) R (160, [some (.ref sb), some (.ref x), some (.ref m), some (.ref o), some (.ref d), some (.int (nI i)), a6, a7], [], ah, k, n) := by
  obtain ⟨g2, hI, hN, hL, hJ⟩ := g
  simp (disch := omega) only [e217_160, e217_160n, e217_161, e217_161n, e217_162, e217_164, e217_165, e217_166, e217_167, e217_167n, e217_168, e217_170, e217_171, e217_172, e217_173, e217_173n, xKv, xK0, xKx, xKHv, xKH0, xk_none, xk_i, xk_f, xk_l, xk_r, xk_n, xc_i, xc_f, xc_l, xc_d, xc_r, xc_n, xo_some, List.map_cons, List.map_nil, List.sum_cons, List.sum_nil, xnzn, xpn0, xpn1, xpnb, xpnn, i10, i00, true_imp_iff, false_imp_iff, not_true_eq_false, not_false_eq_true, true_and, and_true, implies_true, xnz0, xnz1, xnzb, xfz0, xfz1, xfzb, Option.isSome_some, if_true, if_false, xbF, xbT, and_false, false_and, Nat.zero_le, Nat.reduceEqDiff, Nat.reduceLeDiff, Nat.reduceAdd, Nat.reduceSub, xiT, xiF, v1, v2, v3, v4, v5, v6, eq_self]
  rw [e217_174]
  refine ⟨⟨by decide, trivial, by omega, by omega⟩, sp_L_wall hK hS g2 hI hN hL (by omega) (fun A' τ' ah1 c1 l1 n1 o1 => ?_)⟩
  show xW _ _ _ _
  simp (disch := omega) only [e217_177, e217_179, e217_179n, e217_180, e217_180n, e217_181, e217_183, e217_184, e217_185, e217_186, e217_186n, e217_187, e217_189, e217_190, e217_191, xKv, xK0, xKx, xKHv, xKH0, xk_none, xk_i, xk_f, xk_l, xk_r, xk_n, xc_i, xc_f, xc_l, xc_d, xc_r, xc_n, xo_some, List.map_cons, List.map_nil, List.sum_cons, List.sum_nil, xnzn, xpn0, xpn1, xpnb, xpnn, i10, i00, true_imp_iff, false_imp_iff, not_true_eq_false, not_false_eq_true, true_and, and_true, implies_true, xnz0, xnz1, xnzb, xfz0, xfz1, xfzb, Option.isSome_some, if_true, if_false, xbF, xbT, and_false, false_and, Nat.zero_le, Nat.reduceEqDiff, Nat.reduceLeDiff, Nat.reduceAdd, Nat.reduceSub, xiT, xiF, v1, v2, v3, v4, v5, v6, eq_self]
  rw [e217_192]
  refine ⟨⟨by decide, c1.1.is⟩, sp_m_wall c1.1 hI (fun ah2 r2 => ?_)⟩
  have g3 := c1.md r2
  have th3 : xfld ah2 m 11 26 = some (.int (nI (t_wall σ (sx (nI i + 1).toNatClampNeg) (sx (nI i + 2).toNatClampNeg)))) := g3.1.1
  have tb : t_wall σ (sx (nI i + 1).toNatClampNeg) (sx (nI i + 2).toNatClampNeg) ≤ 3 := by unfold t_wall; repeat' (first | decide | apply xi_le)
  have hx := hX A' τ' (s_wall σ (sx (nI i + 1).toNatClampNeg) (sx (nI i + 2).toNatClampNeg)) ah2 (t_wall σ (sx (nI i + 1).toNatClampNeg) (sx (nI i + 2).toNatClampNeg))
  have hG : GI κ ad m o d x A' τ' (s_wall σ (sx (nI i + 1).toNatClampNeg) (sx (nI i + 2).toNatClampNeg)) ah2 (t_wall σ (sx (nI i + 1).toNatClampNeg) (sx (nI i + 2).toNatClampNeg)) (j + 1) := ⟨g3, MI_wall hI, NJ_wall hN, l1, by omega⟩
  show xW _ _ _ _
  by_cases ht : t_wall σ (sx (nI i + 1).toNatClampNeg) (sx (nI i + 2).toNatClampNeg) = 0
  · obtain ⟨f, hf, hf0⟩ := o1 ht
    rw [← tcN0] at hf0
    have hf2 : ah2 o = some (.inl (3, 1, .inr (.inl f))) := (r2.2.2.2.2 o c1.2.2.2.2.2.1 (fun c hc q => (c1.2.2.2.2.2.2.2.2 c hc).1 q.symm)).trans hf
    have fo : xal ah2 o = some (1, f) := xal_of hf2
    have tz : nI (t_wall σ (sx (nI i + 1).toNatClampNeg) (sx (nI i + 2).toNatClampNeg)) = 0 := by rw [ht]; rfl
    simp (disch := omega) only [e217_195, e217_197, e217_197n, e217_198, e217_201, e217_203, e217_206, e217_207, e217_208, e217_210, e217_213, e217_213n, e217_214, e217_215, e217_216, e217_218, e217_219, e217_220, e217_223, e217_224, e217_225, xKv, xK0, xKx, xKHv, xKH0, xk_none, xk_i, xk_f, xk_l, xk_r, xk_n, xc_i, xc_f, xc_l, xc_d, xc_r, xc_n, xo_some, List.map_cons, List.map_nil, List.sum_cons, List.sum_nil, xnzn, xpn0, xpn1, xpnb, xpnn, i10, i00, true_imp_iff, false_imp_iff, not_true_eq_false, not_false_eq_true, true_and, and_true, implies_true, xnz0, xnz1, xnzb, xfz0, xfz1, xfzb, Option.isSome_some, if_true, if_false, xbF, xbT, and_false, false_and, Nat.zero_le, Nat.reduceEqDiff, Nat.reduceLeDiff, Nat.reduceAdd, Nat.reduceSub, xiT, xiF, g3.1.is, en92, e92_0, e92_0n, e92_1, e92_4, th3, eq_self, tz, fo, vp01, hf0, lg_cmp_eq]
    exact hx _ _ _ _ hG (by omega) (by omega)
  · have tz : (nI (t_wall σ (sx (nI i + 1).toNatClampNeg) (sx (nI i + 2).toNatClampNeg)) = 0) = False := by rw [nI_z tb]; exact eq_false ht
    simp (disch := omega) only [e217_195, e217_197, e217_197n, e217_198, e217_201, e217_203, e217_206, e217_207, e217_208, e217_210, e217_213, e217_213n, e217_214, e217_215, e217_216, e217_218, e217_219, e217_220, e217_223, e217_224, e217_225, xKv, xK0, xKx, xKHv, xKH0, xk_none, xk_i, xk_f, xk_l, xk_r, xk_n, xc_i, xc_f, xc_l, xc_d, xc_r, xc_n, xo_some, List.map_cons, List.map_nil, List.sum_cons, List.sum_nil, xnzn, xpn0, xpn1, xpnb, xpnn, i10, i00, true_imp_iff, false_imp_iff, not_true_eq_false, not_false_eq_true, true_and, and_true, implies_true, xnz0, xnz1, xnzb, xfz0, xfz1, xfzb, Option.isSome_some, if_true, if_false, xbF, xbT, and_false, false_and, Nat.zero_le, Nat.reduceEqDiff, Nat.reduceLeDiff, Nat.reduceAdd, Nat.reduceSub, xiT, xiF, g3.1.is, en92, e92_0, e92_0n, e92_1, e92_4, th3, eq_self, tz]
    exact hx _ _ _ _ hG (by omega) (by omega)
theorem rd_weather (hK : KI κ) (hS : KS κ) (g : GI κ ad m o d x A τ σ ah th j) (hj : j < 512) (hk : 60 ≤ k) (hn : 8000 ≤ n) (v1 : vp_in (nI i + 1) sL = True) (v2 : vp_in (nI i + 2) sL = True) (v3 : vp_in (nI i + 3) sL = True) (v4 : vp_in (nI i + 4) sL = True) (v5 : vp_in (nI i + 5) sL = True) (v6 : vp_in (nI i + 6) sL = True) (hX : LX κ ad sb sL sx R m o d x i j k n) : xW (TL κ sb sL sx) (xm κ) R (228, [some (.ref sb), some (.ref x), some (.ref m), some (.ref o), some (.ref d), some (.int (nI i)), a6, a7], [], ah, k, n) := by
  obtain ⟨g2, hI, hN, hL, hJ⟩ := g
  simp (disch := omega) only [e217_228, e217_228n, e217_229, e217_229n, e217_230, e217_232, e217_233, e217_234, e217_235, e217_235n, e217_236, e217_238, e217_239, e217_240, xKv, xK0, xKx, xKHv, xKH0, xk_none, xk_i, xk_f, xk_l, xk_r, xk_n, xc_i, xc_f, xc_l, xc_d, xc_r, xc_n, xo_some, List.map_cons, List.map_nil, List.sum_cons, List.sum_nil, xnzn, xpn0, xpn1, xpnb, xpnn, i10, i00, true_imp_iff, false_imp_iff, not_true_eq_false, not_false_eq_true, true_and, and_true, implies_true, xnz0, xnz1, xnzb, xfz0, xfz1, xfzb, Option.isSome_some, if_true, if_false, xbF, xbT, and_false, false_and, Nat.zero_le, Nat.reduceEqDiff, Nat.reduceLeDiff, Nat.reduceAdd, Nat.reduceSub, xiT, xiF, v1, v2, v3, v4, v5, v6, eq_self]
  rw [e217_241]
  refine ⟨⟨by decide, trivial, by omega, by omega⟩, sp_L_weather hK hS g2 hI hN hL (by omega) (fun A' τ' ah1 c1 l1 n1 o1 => ?_)⟩
  show xW _ _ _ _
  simp (disch := omega) only [e217_244, e217_246, e217_246n, e217_247, e217_247n, e217_248, e217_250, e217_251, e217_252, e217_253, e217_253n, e217_254, e217_256, e217_257, e217_258, xKv, xK0, xKx, xKHv, xKH0, xk_none, xk_i, xk_f, xk_l, xk_r, xk_n, xc_i, xc_f, xc_l, xc_d, xc_r, xc_n, xo_some, List.map_cons, List.map_nil, List.sum_cons, List.sum_nil, xnzn, xpn0, xpn1, xpnb, xpnn, i10, i00, true_imp_iff, false_imp_iff, not_true_eq_false, not_false_eq_true, true_and, and_true, implies_true, xnz0, xnz1, xnzb, xfz0, xfz1, xfzb, Option.isSome_some, if_true, if_false, xbF, xbT, and_false, false_and, Nat.zero_le, Nat.reduceEqDiff, Nat.reduceLeDiff, Nat.reduceAdd, Nat.reduceSub, xiT, xiF, v1, v2, v3, v4, v5, v6, eq_self]
  rw [e217_259]
  refine ⟨⟨by decide, c1.1.is⟩, sp_m_weather c1.1 (fun ah2 r2 => ?_)⟩
  have g3 := c1.md r2
  have th3 : xfld ah2 m 11 26 = some (.int (nI (t_weather (sx (nI i + 1).toNatClampNeg) (sx (nI i + 2).toNatClampNeg)))) := g3.1.1
  have tb : t_weather (sx (nI i + 1).toNatClampNeg) (sx (nI i + 2).toNatClampNeg) ≤ 3 := by unfold t_weather; repeat' (first | decide | apply xi_le)
  have hx := hX A' τ' (s_weather σ (sx (nI i + 1).toNatClampNeg) (sx (nI i + 2).toNatClampNeg)) ah2 (t_weather (sx (nI i + 1).toNatClampNeg) (sx (nI i + 2).toNatClampNeg))
  have hG : GI κ ad m o d x A' τ' (s_weather σ (sx (nI i + 1).toNatClampNeg) (sx (nI i + 2).toNatClampNeg)) ah2 (t_weather (sx (nI i + 1).toNatClampNeg) (sx (nI i + 2).toNatClampNeg)) (j + 1) := ⟨g3, MI_weather hI, NJ_weather hN, l1, by omega⟩
  show xW _ _ _ _
  simp (disch := omega) only [e217_262, e217_262n, e217_263, e217_266, e217_268, e217_271, e217_272, e217_273, xKv, xK0, xKx, xKHv, xKH0, xk_none, xk_i, xk_f, xk_l, xk_r, xk_n, xc_i, xc_f, xc_l, xc_d, xc_r, xc_n, xo_some, List.map_cons, List.map_nil, List.sum_cons, List.sum_nil, xnzn, xpn0, xpn1, xpnb, xpnn, i10, i00, true_imp_iff, false_imp_iff, not_true_eq_false, not_false_eq_true, true_and, and_true, implies_true, xnz0, xnz1, xnzb, xfz0, xfz1, xfzb, Option.isSome_some, if_true, if_false, xbF, xbT, and_false, false_and, Nat.zero_le, Nat.reduceEqDiff, Nat.reduceLeDiff, Nat.reduceAdd, Nat.reduceSub, xiT, xiF, g3.1.is, en92, e92_0, e92_0n, e92_1, e92_4, th3, eq_self]
  exact hx _ _ _ _ hG (by omega) (by omega)
theorem rd_damp (hK : KI κ) (hS : KS κ) (g : GI κ ad m o d x A τ σ ah th j) (hj : j < 512) (hk : 60 ≤ k) (hn : 8000 ≤ n) (v1 : vp_in (nI i + 1) sL = True) (v2 : vp_in (nI i + 2) sL = True) (v3 : vp_in (nI i + 3) sL = True) (v4 : vp_in (nI i + 4) sL = True) (v5 : vp_in (nI i + 5) sL = True) (v6 : vp_in (nI i + 6) sL = True) (hX : LX κ ad sb sL sx R m o d x i j k n) : xW (TL κ sb sL sx) (xm κ) R (276, [some (.ref sb), some (.ref x), some (.ref m), some (.ref o), some (.ref d), some (.int (nI i)), a6, a7], [], ah, k, n) := by
  obtain ⟨g2, hI, hN, hL, hJ⟩ := g
  simp (disch := omega) only [e217_276, e217_276n, e217_277, e217_277n, e217_278, e217_280, e217_281, e217_282, e217_283, e217_283n, e217_284, e217_286, e217_287, e217_288, e217_289, e217_289n, xKv, xK0, xKx, xKHv, xKH0, xk_none, xk_i, xk_f, xk_l, xk_r, xk_n, xc_i, xc_f, xc_l, xc_d, xc_r, xc_n, xo_some, List.map_cons, List.map_nil, List.sum_cons, List.sum_nil, xnzn, xpn0, xpn1, xpnb, xpnn, i10, i00, true_imp_iff, false_imp_iff, not_true_eq_false, not_false_eq_true, true_and, and_true, implies_true, xnz0, xnz1, xnzb, xfz0, xfz1, xfzb, Option.isSome_some, if_true, if_false, xbF, xbT, and_false, false_and, Nat.zero_le, Nat.reduceEqDiff, Nat.reduceLeDiff, Nat.reduceAdd, Nat.reduceSub, xiT, xiF, v1, v2, v3, v4, v5, v6, eq_self]
  rw [e217_290]
  refine ⟨⟨by decide, trivial, by omega, by omega⟩, sp_L_damp hK hS g2 hI hN hL (by omega) (fun A' τ' ah1 c1 l1 n1 o1 => ?_)⟩
  show xW _ _ _ _
  simp (disch := omega) only [e217_293, e217_295, e217_295n, e217_296, e217_296n, e217_297, e217_299, e217_300, e217_301, e217_302, e217_302n, e217_303, e217_305, e217_306, e217_307, xKv, xK0, xKx, xKHv, xKH0, xk_none, xk_i, xk_f, xk_l, xk_r, xk_n, xc_i, xc_f, xc_l, xc_d, xc_r, xc_n, xo_some, List.map_cons, List.map_nil, List.sum_cons, List.sum_nil, xnzn, xpn0, xpn1, xpnb, xpnn, i10, i00, true_imp_iff, false_imp_iff, not_true_eq_false, not_false_eq_true, true_and, and_true, implies_true, xnz0, xnz1, xnzb, xfz0, xfz1, xfzb, Option.isSome_some, if_true, if_false, xbF, xbT, and_false, false_and, Nat.zero_le, Nat.reduceEqDiff, Nat.reduceLeDiff, Nat.reduceAdd, Nat.reduceSub, xiT, xiF, v1, v2, v3, v4, v5, v6, eq_self]
  rw [e217_308]
  refine ⟨⟨by decide, c1.1.is⟩, sp_m_damp c1.1 hI (fun ah2 r2 => ?_)⟩
  have g3 := c1.md r2
  have th3 : xfld ah2 m 11 26 = some (.int (nI (t_damp σ (sx (nI i + 1).toNatClampNeg) (sx (nI i + 2).toNatClampNeg)))) := g3.1.1
  have tb : t_damp σ (sx (nI i + 1).toNatClampNeg) (sx (nI i + 2).toNatClampNeg) ≤ 3 := by unfold t_damp; repeat' (first | decide | apply xi_le)
  have hx := hX A' τ' (s_damp σ (sx (nI i + 1).toNatClampNeg) (sx (nI i + 2).toNatClampNeg)) ah2 (t_damp σ (sx (nI i + 1).toNatClampNeg) (sx (nI i + 2).toNatClampNeg))
  have hG : GI κ ad m o d x A' τ' (s_damp σ (sx (nI i + 1).toNatClampNeg) (sx (nI i + 2).toNatClampNeg)) ah2 (t_damp σ (sx (nI i + 1).toNatClampNeg) (sx (nI i + 2).toNatClampNeg)) (j + 1) := ⟨g3, MI_damp hI, NJ_damp hN hI, l1, by omega⟩
  show xW _ _ _ _
  by_cases ht : t_damp σ (sx (nI i + 1).toNatClampNeg) (sx (nI i + 2).toNatClampNeg) = 0
  · obtain ⟨f, hf, hf0⟩ := o1 ht
    rw [← tcN0] at hf0
    have hf2 : ah2 o = some (.inl (3, 1, .inr (.inl f))) := (r2.2.2.2.2 o c1.2.2.2.2.2.1 (fun c hc q => (c1.2.2.2.2.2.2.2.2 c hc).1 q.symm)).trans hf
    have fo : xal ah2 o = some (1, f) := xal_of hf2
    have tz : nI (t_damp σ (sx (nI i + 1).toNatClampNeg) (sx (nI i + 2).toNatClampNeg)) = 0 := by rw [ht]; rfl
    simp (disch := omega) only [e217_311, e217_313, e217_313n, e217_314, e217_317, e217_319, e217_322, e217_323, e217_324, e217_326, e217_329, e217_329n, e217_330, e217_331, e217_332, e217_334, e217_335, e217_336, e217_339, e217_340, e217_341, xKv, xK0, xKx, xKHv, xKH0, xk_none, xk_i, xk_f, xk_l, xk_r, xk_n, xc_i, xc_f, xc_l, xc_d, xc_r, xc_n, xo_some, List.map_cons, List.map_nil, List.sum_cons, List.sum_nil, xnzn, xpn0, xpn1, xpnb, xpnn, i10, i00, true_imp_iff, false_imp_iff, not_true_eq_false, not_false_eq_true, true_and, and_true, implies_true, xnz0, xnz1, xnzb, xfz0, xfz1, xfzb, Option.isSome_some, if_true, if_false, xbF, xbT, and_false, false_and, Nat.zero_le, Nat.reduceEqDiff, Nat.reduceLeDiff, Nat.reduceAdd, Nat.reduceSub, xiT, xiF, g3.1.is, en92, e92_0, e92_0n, e92_1, e92_4, th3, eq_self, tz, fo, vp01, hf0, lg_cmp_eq]
    exact hx _ _ _ _ hG (by omega) (by omega)
  · have tz : (nI (t_damp σ (sx (nI i + 1).toNatClampNeg) (sx (nI i + 2).toNatClampNeg)) = 0) = False := by rw [nI_z tb]; exact eq_false ht
    simp (disch := omega) only [e217_311, e217_313, e217_313n, e217_314, e217_317, e217_319, e217_322, e217_323, e217_324, e217_326, e217_329, e217_329n, e217_330, e217_331, e217_332, e217_334, e217_335, e217_336, e217_339, e217_340, e217_341, xKv, xK0, xKx, xKHv, xKH0, xk_none, xk_i, xk_f, xk_l, xk_r, xk_n, xc_i, xc_f, xc_l, xc_d, xc_r, xc_n, xo_some, List.map_cons, List.map_nil, List.sum_cons, List.sum_nil, xnzn, xpn0, xpn1, xpnb, xpnn, i10, i00, true_imp_iff, false_imp_iff, not_true_eq_false, not_false_eq_true, true_and, and_true, implies_true, xnz0, xnz1, xnzb, xfz0, xfz1, xfzb, Option.isSome_some, if_true, if_false, xbF, xbT, and_false, false_and, Nat.zero_le, Nat.reduceEqDiff, Nat.reduceLeDiff, Nat.reduceAdd, Nat.reduceSub, xiT, xiF, g3.1.is, en92, e92_0, e92_0n, e92_1, e92_4, th3, eq_self, tz]
    exact hx _ _ _ _ hG (by omega) (by omega)
theorem rd_joint (hK : KI κ) (hS : KS κ) (g : GI κ ad m o d x A τ σ ah th j) (hj : j < 512) (hk : 60 ≤ k) (hn : 8000 ≤ n) (v1 : vp_in (nI i + 1) sL = True) (v2 : vp_in (nI i + 2) sL = True) (v3 : vp_in (nI i + 3) sL = True) (v4 : vp_in (nI i + 4) sL = True) (v5 : vp_in (nI i + 5) sL = True) (v6 : vp_in (nI i + 6) sL = True) (hX : LX κ ad sb sL sx R m o d x i j k n) : xW (TL κ sb sL sx) (xm κ) R (344, [some (.ref sb), some (.ref x), some (.ref m), some (.ref o), some (.ref d), some (.int (nI i)), a6, a7], [], ah, k, n) := by
  obtain ⟨g2, hI, hN, hL, hJ⟩ := g
  simp (disch := omega) only [e217_344, e217_344n, e217_345, e217_345n, e217_346, e217_348, e217_349, e217_350, e217_351, e217_351n, e217_352, e217_354, e217_355, e217_356, e217_357, e217_357n, xKv, xK0, xKx, xKHv, xKH0, xk_none, xk_i, xk_f, xk_l, xk_r, xk_n, xc_i, xc_f, xc_l, xc_d, xc_r, xc_n, xo_some, List.map_cons, List.map_nil, List.sum_cons, List.sum_nil, xnzn, xpn0, xpn1, xpnb, xpnn, i10, i00, true_imp_iff, false_imp_iff, not_true_eq_false, not_false_eq_true, true_and, and_true, implies_true, xnz0, xnz1, xnzb, xfz0, xfz1, xfzb, Option.isSome_some, if_true, if_false, xbF, xbT, and_false, false_and, Nat.zero_le, Nat.reduceEqDiff, Nat.reduceLeDiff, Nat.reduceAdd, Nat.reduceSub, xiT, xiF, v1, v2, v3, v4, v5, v6, eq_self]
  rw [e217_358]
  refine ⟨⟨by decide, trivial, by omega, by omega⟩, sp_L_joint hK hS g2 hI hN hL (by omega) (fun A' τ' ah1 c1 l1 n1 o1 => ?_)⟩
  show xW _ _ _ _
  simp (disch := omega) only [e217_361, e217_363, e217_363n, e217_364, e217_364n, e217_365, e217_367, e217_368, e217_369, e217_370, e217_370n, e217_371, e217_373, e217_374, e217_375, xKv, xK0, xKx, xKHv, xKH0, xk_none, xk_i, xk_f, xk_l, xk_r, xk_n, xc_i, xc_f, xc_l, xc_d, xc_r, xc_n, xo_some, List.map_cons, List.map_nil, List.sum_cons, List.sum_nil, xnzn, xpn0, xpn1, xpnb, xpnn, i10, i00, true_imp_iff, false_imp_iff, not_true_eq_false, not_false_eq_true, true_and, and_true, implies_true, xnz0, xnz1, xnzb, xfz0, xfz1, xfzb, Option.isSome_some, if_true, if_false, xbF, xbT, and_false, false_and, Nat.zero_le, Nat.reduceEqDiff, Nat.reduceLeDiff, Nat.reduceAdd, Nat.reduceSub, xiT, xiF, v1, v2, v3, v4, v5, v6, eq_self]
  rw [e217_376]
  refine ⟨⟨by decide, c1.1.is⟩, sp_m_joint c1.1 hI (fun ah2 r2 => ?_)⟩
  have g3 := c1.md r2
  have th3 : xfld ah2 m 11 26 = some (.int (nI (t_joint σ (sx (nI i + 1).toNatClampNeg) (sx (nI i + 2).toNatClampNeg)))) := g3.1.1
  have tb : t_joint σ (sx (nI i + 1).toNatClampNeg) (sx (nI i + 2).toNatClampNeg) ≤ 3 := by unfold t_joint; repeat' (first | decide | apply xi_le)
  have hx := hX A' τ' (s_joint σ (sx (nI i + 1).toNatClampNeg) (sx (nI i + 2).toNatClampNeg)) ah2 (t_joint σ (sx (nI i + 1).toNatClampNeg) (sx (nI i + 2).toNatClampNeg))
  have hG : GI κ ad m o d x A' τ' (s_joint σ (sx (nI i + 1).toNatClampNeg) (sx (nI i + 2).toNatClampNeg)) ah2 (t_joint σ (sx (nI i + 1).toNatClampNeg) (sx (nI i + 2).toNatClampNeg)) (j + 1) := ⟨g3, MI_joint hI, NJ_joint hN hI, l1, by omega⟩
  show xW _ _ _ _
  by_cases ht : t_joint σ (sx (nI i + 1).toNatClampNeg) (sx (nI i + 2).toNatClampNeg) = 0
  · obtain ⟨f, hf, hf0⟩ := o1 ht
    rw [← tcN0] at hf0
    have hf2 : ah2 o = some (.inl (3, 1, .inr (.inl f))) := (r2.2.2.2.2 o c1.2.2.2.2.2.1 (fun c hc q => (c1.2.2.2.2.2.2.2.2 c hc).1 q.symm)).trans hf
    have fo : xal ah2 o = some (1, f) := xal_of hf2
    have tz : nI (t_joint σ (sx (nI i + 1).toNatClampNeg) (sx (nI i + 2).toNatClampNeg)) = 0 := by rw [ht]; rfl
    unfold xbl at hf0
    by_cases hz : v_joint σ (sx (nI i + 1).toNatClampNeg) (sx (nI i + 2).toNatClampNeg) = 0
    · rw [if_pos hz] at hf0
      simp (disch := omega) only [e217_379, e217_381, e217_381n, e217_382, e217_385, e217_387, e217_390, e217_391, e217_392, e217_394, e217_397, e217_397n, e217_398, e217_399, e217_400, e217_402, e217_405, e217_406, e217_409, e217_410, e217_411, e217_414, e217_415, e217_416, xKv, xK0, xKx, xKHv, xKH0, xk_none, xk_i, xk_f, xk_l, xk_r, xk_n, xc_i, xc_f, xc_l, xc_d, xc_r, xc_n, xo_some, List.map_cons, List.map_nil, List.sum_cons, List.sum_nil, xnzn, xpn0, xpn1, xpnb, xpnn, i10, i00, true_imp_iff, false_imp_iff, not_true_eq_false, not_false_eq_true, true_and, and_true, implies_true, xnz0, xnz1, xnzb, xfz0, xfz1, xfzb, Option.isSome_some, if_true, if_false, xbF, xbT, and_false, false_and, Nat.zero_le, Nat.reduceEqDiff, Nat.reduceLeDiff, Nat.reduceAdd, Nat.reduceSub, xiT, xiF, g3.1.is, en92, e92_0, e92_0n, e92_1, e92_4, th3, eq_self, tz, fo, vp01, hf0, lg_cmp_eq, hz]
      exact hx _ _ _ _ hG (by omega) (by omega)
    · rw [if_neg hz] at hf0
      simp (disch := omega) only [e217_379, e217_381, e217_381n, e217_382, e217_385, e217_387, e217_390, e217_391, e217_392, e217_394, e217_397, e217_397n, e217_398, e217_399, e217_400, e217_402, e217_405, e217_406, e217_409, e217_410, e217_411, e217_414, e217_415, e217_416, xKv, xK0, xKx, xKHv, xKH0, xk_none, xk_i, xk_f, xk_l, xk_r, xk_n, xc_i, xc_f, xc_l, xc_d, xc_r, xc_n, xo_some, List.map_cons, List.map_nil, List.sum_cons, List.sum_nil, xnzn, xpn0, xpn1, xpnb, xpnn, i10, i00, true_imp_iff, false_imp_iff, not_true_eq_false, not_false_eq_true, true_and, and_true, implies_true, xnz0, xnz1, xnzb, xfz0, xfz1, xfzb, Option.isSome_some, if_true, if_false, xbF, xbT, and_false, false_and, Nat.zero_le, Nat.reduceEqDiff, Nat.reduceLeDiff, Nat.reduceAdd, Nat.reduceSub, xiT, xiF, g3.1.is, en92, e92_0, e92_0n, e92_1, e92_4, th3, eq_self, tz, fo, vp01, hf0, lg_cmp_eq, hz]
      exact hx _ _ _ _ hG (by omega) (by omega)
  · have tz : (nI (t_joint σ (sx (nI i + 1).toNatClampNeg) (sx (nI i + 2).toNatClampNeg)) = 0) = False := by rw [nI_z tb]; exact eq_false ht
    simp (disch := omega) only [e217_379, e217_381, e217_381n, e217_382, e217_385, e217_387, e217_390, e217_391, e217_392, e217_394, e217_397, e217_397n, e217_398, e217_399, e217_400, e217_402, e217_405, e217_406, e217_409, e217_410, e217_411, e217_414, e217_415, e217_416, xKv, xK0, xKx, xKHv, xKH0, xk_none, xk_i, xk_f, xk_l, xk_r, xk_n, xc_i, xc_f, xc_l, xc_d, xc_r, xc_n, xo_some, List.map_cons, List.map_nil, List.sum_cons, List.sum_nil, xnzn, xpn0, xpn1, xpnb, xpnn, i10, i00, true_imp_iff, false_imp_iff, not_true_eq_false, not_false_eq_true, true_and, and_true, implies_true, xnz0, xnz1, xnzb, xfz0, xfz1, xfzb, Option.isSome_some, if_true, if_false, xbF, xbT, and_false, false_and, Nat.zero_le, Nat.reduceEqDiff, Nat.reduceLeDiff, Nat.reduceAdd, Nat.reduceSub, xiT, xiF, g3.1.is, en92, e92_0, e92_0n, e92_1, e92_4, th3, eq_self, tz]
    exact hx _ _ _ _ hG (by omega) (by omega)
theorem rd_coat (hK : KI κ) (hS : KS κ) (g : GI κ ad m o d x A τ σ ah th j) (hj : j < 512) (hk : 60 ≤ k) (hn : 8000 ≤ n) (v1 : vp_in (nI i + 1) sL = True) (v2 : vp_in (nI i + 2) sL = True) (v3 : vp_in (nI i + 3) sL = True) (v4 : vp_in (nI i + 4) sL = True) (v5 : vp_in (nI i + 5) sL = True) (v6 : vp_in (nI i + 6) sL = True) (hX : LX κ ad sb sL sx R m o d x i j k n) : xW (TL κ sb sL sx) (xm κ) R (419, [some (.ref sb), some (.ref x), some (.ref m), some (.ref o), some (.ref d), some (.int (nI i)), a6, a7], [], ah, k, n) := by
  obtain ⟨g2, hI, hN, hL, hJ⟩ := g
  simp (disch := omega) only [e217_419, e217_419n, e217_420, e217_420n, e217_421, e217_423, e217_424, e217_425, e217_426, e217_426n, e217_427, e217_429, e217_430, e217_431, e217_432, e217_432n, e217_433, e217_435, e217_436, e217_437, e217_438, e217_438n, e217_439, e217_441, e217_442, e217_443, e217_444, e217_444n, e217_445, e217_447, e217_448, e217_449, e217_450, e217_450n, xKv, xK0, xKx, xKHv, xKH0, xk_none, xk_i, xk_f, xk_l, xk_r, xk_n, xc_i, xc_f, xc_l, xc_d, xc_r, xc_n, xo_some, List.map_cons, List.map_nil, List.sum_cons, List.sum_nil, xnzn, xpn0, xpn1, xpnb, xpnn, i10, i00, true_imp_iff, false_imp_iff, not_true_eq_false, not_false_eq_true, true_and, and_true, implies_true, xnz0, xnz1, xnzb, xfz0, xfz1, xfzb, Option.isSome_some, if_true, if_false, xbF, xbT, and_false, false_and, Nat.zero_le, Nat.reduceEqDiff, Nat.reduceLeDiff, Nat.reduceAdd, Nat.reduceSub, xiT, xiF, v1, v2, v3, v4, v5, v6, eq_self]
  rw [e217_451]
  refine ⟨⟨by decide, trivial, by omega, by omega⟩, sp_L_coat hK hS g2 hI hN hL (by omega) (fun A' τ' ah1 c1 l1 n1 o1 => ?_)⟩
  show xW _ _ _ _
  simp (disch := omega) only [e217_454, e217_456, e217_456n, e217_457, e217_457n, e217_458, e217_460, e217_461, e217_462, e217_463, e217_463n, e217_464, e217_466, e217_467, e217_468, e217_469, e217_469n, e217_470, e217_472, e217_473, e217_474, e217_475, e217_475n, e217_476, e217_478, e217_479, e217_480, e217_481, e217_481n, e217_482, e217_484, e217_485, e217_486, xKv, xK0, xKx, xKHv, xKH0, xk_none, xk_i, xk_f, xk_l, xk_r, xk_n, xc_i, xc_f, xc_l, xc_d, xc_r, xc_n, xo_some, List.map_cons, List.map_nil, List.sum_cons, List.sum_nil, xnzn, xpn0, xpn1, xpnb, xpnn, i10, i00, true_imp_iff, false_imp_iff, not_true_eq_false, not_false_eq_true, true_and, and_true, implies_true, xnz0, xnz1, xnzb, xfz0, xfz1, xfzb, Option.isSome_some, if_true, if_false, xbF, xbT, and_false, false_and, Nat.zero_le, Nat.reduceEqDiff, Nat.reduceLeDiff, Nat.reduceAdd, Nat.reduceSub, xiT, xiF, v1, v2, v3, v4, v5, v6, eq_self]
  rw [e217_487]
  refine ⟨⟨by decide, c1.1.is⟩, sp_m_coat c1.1 hI (fun ah2 r2 => ?_)⟩
  have g3 := c1.md r2
  have th3 : xfld ah2 m 11 26 = some (.int (nI (t_coat σ (sx (nI i + 1).toNatClampNeg) (sx (nI i + 2).toNatClampNeg) (sx (nI i + 3).toNatClampNeg) (sx (nI i + 4).toNatClampNeg) (sx (nI i + 5).toNatClampNeg)))) := g3.1.1
  have tb : t_coat σ (sx (nI i + 1).toNatClampNeg) (sx (nI i + 2).toNatClampNeg) (sx (nI i + 3).toNatClampNeg) (sx (nI i + 4).toNatClampNeg) (sx (nI i + 5).toNatClampNeg) ≤ 3 := by unfold t_coat; repeat' (first | decide | apply xi_le)
  have hx := hX A' τ' (s_coat σ (sx (nI i + 1).toNatClampNeg) (sx (nI i + 2).toNatClampNeg) (sx (nI i + 3).toNatClampNeg) (sx (nI i + 4).toNatClampNeg) (sx (nI i + 5).toNatClampNeg)) ah2 (t_coat σ (sx (nI i + 1).toNatClampNeg) (sx (nI i + 2).toNatClampNeg) (sx (nI i + 3).toNatClampNeg) (sx (nI i + 4).toNatClampNeg) (sx (nI i + 5).toNatClampNeg))
  have hG : GI κ ad m o d x A' τ' (s_coat σ (sx (nI i + 1).toNatClampNeg) (sx (nI i + 2).toNatClampNeg) (sx (nI i + 3).toNatClampNeg) (sx (nI i + 4).toNatClampNeg) (sx (nI i + 5).toNatClampNeg)) ah2 (t_coat σ (sx (nI i + 1).toNatClampNeg) (sx (nI i + 2).toNatClampNeg) (sx (nI i + 3).toNatClampNeg) (sx (nI i + 4).toNatClampNeg) (sx (nI i + 5).toNatClampNeg)) (j + 1) := ⟨g3, MI_coat hI, NJ_coat hN hI, l1, by omega⟩
  show xW _ _ _ _
  by_cases ht : t_coat σ (sx (nI i + 1).toNatClampNeg) (sx (nI i + 2).toNatClampNeg) (sx (nI i + 3).toNatClampNeg) (sx (nI i + 4).toNatClampNeg) (sx (nI i + 5).toNatClampNeg) = 0
  · obtain ⟨f, hf, hf0⟩ := o1 ht
    rw [← tcN0] at hf0
    have hf2 : ah2 o = some (.inl (3, 1, .inr (.inl f))) := (r2.2.2.2.2 o c1.2.2.2.2.2.1 (fun c hc q => (c1.2.2.2.2.2.2.2.2 c hc).1 q.symm)).trans hf
    have fo : xal ah2 o = some (1, f) := xal_of hf2
    have tz : nI (t_coat σ (sx (nI i + 1).toNatClampNeg) (sx (nI i + 2).toNatClampNeg) (sx (nI i + 3).toNatClampNeg) (sx (nI i + 4).toNatClampNeg) (sx (nI i + 5).toNatClampNeg)) = 0 := by rw [ht]; rfl
    simp (disch := omega) only [e217_490, e217_492, e217_492n, e217_493, e217_496, e217_498, e217_501, e217_502, e217_503, e217_505, e217_508, e217_508n, e217_509, e217_510, e217_511, e217_513, e217_514, e217_515, e217_518, e217_519, e217_520, xKv, xK0, xKx, xKHv, xKH0, xk_none, xk_i, xk_f, xk_l, xk_r, xk_n, xc_i, xc_f, xc_l, xc_d, xc_r, xc_n, xo_some, List.map_cons, List.map_nil, List.sum_cons, List.sum_nil, xnzn, xpn0, xpn1, xpnb, xpnn, i10, i00, true_imp_iff, false_imp_iff, not_true_eq_false, not_false_eq_true, true_and, and_true, implies_true, xnz0, xnz1, xnzb, xfz0, xfz1, xfzb, Option.isSome_some, if_true, if_false, xbF, xbT, and_false, false_and, Nat.zero_le, Nat.reduceEqDiff, Nat.reduceLeDiff, Nat.reduceAdd, Nat.reduceSub, xiT, xiF, g3.1.is, en92, e92_0, e92_0n, e92_1, e92_4, th3, eq_self, tz, fo, vp01, hf0, lg_cmp_eq]
    exact hx _ _ _ _ hG (by omega) (by omega)
  · have tz : (nI (t_coat σ (sx (nI i + 1).toNatClampNeg) (sx (nI i + 2).toNatClampNeg) (sx (nI i + 3).toNatClampNeg) (sx (nI i + 4).toNatClampNeg) (sx (nI i + 5).toNatClampNeg)) = 0) = False := by rw [nI_z tb]; exact eq_false ht
    simp (disch := omega) only [e217_490, e217_492, e217_492n, e217_493, e217_496, e217_498, e217_501, e217_502, e217_503, e217_505, e217_508, e217_508n, e217_509, e217_510, e217_511, e217_513, e217_514, e217_515, e217_518, e217_519, e217_520, xKv, xK0, xKx, xKHv, xKH0, xk_none, xk_i, xk_f, xk_l, xk_r, xk_n, xc_i, xc_f, xc_l, xc_d, xc_r, xc_n, xo_some, List.map_cons, List.map_nil, List.sum_cons, List.sum_nil, xnzn, xpn0, xpn1, xpnb, xpnn, i10, i00, true_imp_iff, false_imp_iff, not_true_eq_false, not_false_eq_true, true_and, and_true, implies_true, xnz0, xnz1, xnzb, xfz0, xfz1, xfzb, Option.isSome_some, if_true, if_false, xbF, xbT, and_false, false_and, Nat.zero_le, Nat.reduceEqDiff, Nat.reduceLeDiff, Nat.reduceAdd, Nat.reduceSub, xiT, xiF, g3.1.is, en92, e92_0, e92_0n, e92_1, e92_4, th3, eq_self, tz]
    exact hx _ _ _ _ hG (by omega) (by omega)
theorem rd_scratch (hK : KI κ) (hS : KS κ) (g : GI κ ad m o d x A τ σ ah th j) (hj : j < 512) (hk : 60 ≤ k) (hn : 8000 ≤ n) (v1 : vp_in (nI i + 1) sL = True) (v2 : vp_in (nI i + 2) sL = True) (v3 : vp_in (nI i + 3) sL = True) (v4 : vp_in (nI i + 4) sL = True) (v5 : vp_in (nI i + 5) sL = True) (v6 : vp_in (nI i + 6) sL = True) (hX : LX κ ad sb sL sx R m o d x i j k n) : xW (TL κ sb sL sx) (xm κ) R (523, [some (.ref sb), some (.ref x), some (.ref m), some (.ref o), some (.ref d), some (.int (nI i)), a6, a7], [], ah, k, n) := by
  obtain ⟨g2, hI, hN, hL, hJ⟩ := g
  simp (disch := omega) only [e217_523, e217_523n, e217_524, e217_524n, e217_525, e217_527, e217_528, e217_529, e217_530, e217_530n, e217_531, e217_533, e217_534, e217_535, e217_536, e217_536n, e217_537, e217_539, e217_540, e217_541, e217_542, e217_542n, xKv, xK0, xKx, xKHv, xKH0, xk_none, xk_i, xk_f, xk_l, xk_r, xk_n, xc_i, xc_f, xc_l, xc_d, xc_r, xc_n, xo_some, List.map_cons, List.map_nil, List.sum_cons, List.sum_nil, xnzn, xpn0, xpn1, xpnb, xpnn, i10, i00, true_imp_iff, false_imp_iff, not_true_eq_false, not_false_eq_true, true_and, and_true, implies_true, xnz0, xnz1, xnzb, xfz0, xfz1, xfzb, Option.isSome_some, if_true, if_false, xbF, xbT, and_false, false_and, Nat.zero_le, Nat.reduceEqDiff, Nat.reduceLeDiff, Nat.reduceAdd, Nat.reduceSub, xiT, xiF, v1, v2, v3, v4, v5, v6, eq_self]
  rw [e217_543]
  refine ⟨⟨by decide, trivial, by omega, by omega⟩, sp_L_scratch hK hS g2 hI hN hL (by omega) (fun A' τ' ah1 c1 l1 n1 o1 => ?_)⟩
  show xW _ _ _ _
  simp (disch := omega) only [e217_546, e217_548, e217_548n, e217_549, e217_549n, e217_550, e217_552, e217_553, e217_554, e217_555, e217_555n, e217_556, e217_558, e217_559, e217_560, e217_561, e217_561n, e217_562, e217_564, e217_565, e217_566, xKv, xK0, xKx, xKHv, xKH0, xk_none, xk_i, xk_f, xk_l, xk_r, xk_n, xc_i, xc_f, xc_l, xc_d, xc_r, xc_n, xo_some, List.map_cons, List.map_nil, List.sum_cons, List.sum_nil, xnzn, xpn0, xpn1, xpnb, xpnn, i10, i00, true_imp_iff, false_imp_iff, not_true_eq_false, not_false_eq_true, true_and, and_true, implies_true, xnz0, xnz1, xnzb, xfz0, xfz1, xfzb, Option.isSome_some, if_true, if_false, xbF, xbT, and_false, false_and, Nat.zero_le, Nat.reduceEqDiff, Nat.reduceLeDiff, Nat.reduceAdd, Nat.reduceSub, xiT, xiF, v1, v2, v3, v4, v5, v6, eq_self]
  rw [e217_567]
  refine ⟨⟨by decide, c1.1.is⟩, sp_m_scratch c1.1 hI (fun ah2 r2 => ?_)⟩
  have g3 := c1.md r2
  have th3 : xfld ah2 m 11 26 = some (.int (nI (t_scratch σ (sx (nI i + 1).toNatClampNeg) (sx (nI i + 2).toNatClampNeg) (sx (nI i + 3).toNatClampNeg)))) := g3.1.1
  have tb : t_scratch σ (sx (nI i + 1).toNatClampNeg) (sx (nI i + 2).toNatClampNeg) (sx (nI i + 3).toNatClampNeg) ≤ 3 := by unfold t_scratch; repeat' (first | decide | apply xi_le)
  have hx := hX A' τ' (s_scratch σ (sx (nI i + 1).toNatClampNeg) (sx (nI i + 2).toNatClampNeg) (sx (nI i + 3).toNatClampNeg)) ah2 (t_scratch σ (sx (nI i + 1).toNatClampNeg) (sx (nI i + 2).toNatClampNeg) (sx (nI i + 3).toNatClampNeg))
  have hG : GI κ ad m o d x A' τ' (s_scratch σ (sx (nI i + 1).toNatClampNeg) (sx (nI i + 2).toNatClampNeg) (sx (nI i + 3).toNatClampNeg)) ah2 (t_scratch σ (sx (nI i + 1).toNatClampNeg) (sx (nI i + 2).toNatClampNeg) (sx (nI i + 3).toNatClampNeg)) (j + 1) := ⟨g3, MI_scratch hI, NJ_scratch hN, l1, by omega⟩
  show xW _ _ _ _
  by_cases ht : t_scratch σ (sx (nI i + 1).toNatClampNeg) (sx (nI i + 2).toNatClampNeg) (sx (nI i + 3).toNatClampNeg) = 0
  · obtain ⟨f, hf, hf0⟩ := o1 ht
    rw [← tcN0] at hf0
    have hf2 : ah2 o = some (.inl (3, 1, .inr (.inl f))) := (r2.2.2.2.2 o c1.2.2.2.2.2.1 (fun c hc q => (c1.2.2.2.2.2.2.2.2 c hc).1 q.symm)).trans hf
    have fo : xal ah2 o = some (1, f) := xal_of hf2
    have tz : nI (t_scratch σ (sx (nI i + 1).toNatClampNeg) (sx (nI i + 2).toNatClampNeg) (sx (nI i + 3).toNatClampNeg)) = 0 := by rw [ht]; rfl
    simp (disch := omega) only [e217_570, e217_572, e217_572n, e217_573, e217_576, e217_578, e217_581, e217_582, e217_583, e217_585, e217_588, e217_588n, e217_589, e217_590, e217_591, e217_593, e217_594, e217_595, e217_598, e217_599, e217_600, xKv, xK0, xKx, xKHv, xKH0, xk_none, xk_i, xk_f, xk_l, xk_r, xk_n, xc_i, xc_f, xc_l, xc_d, xc_r, xc_n, xo_some, List.map_cons, List.map_nil, List.sum_cons, List.sum_nil, xnzn, xpn0, xpn1, xpnb, xpnn, i10, i00, true_imp_iff, false_imp_iff, not_true_eq_false, not_false_eq_true, true_and, and_true, implies_true, xnz0, xnz1, xnzb, xfz0, xfz1, xfzb, Option.isSome_some, if_true, if_false, xbF, xbT, and_false, false_and, Nat.zero_le, Nat.reduceEqDiff, Nat.reduceLeDiff, Nat.reduceAdd, Nat.reduceSub, xiT, xiF, g3.1.is, en92, e92_0, e92_0n, e92_1, e92_4, th3, eq_self, tz, fo, vp01, hf0, lg_cmp_eq]
    exact hx _ _ _ _ hG (by omega) (by omega)
  · have tz : (nI (t_scratch σ (sx (nI i + 1).toNatClampNeg) (sx (nI i + 2).toNatClampNeg) (sx (nI i + 3).toNatClampNeg)) = 0) = False := by rw [nI_z tb]; exact eq_false ht
    simp (disch := omega) only [e217_570, e217_572, e217_572n, e217_573, e217_576, e217_578, e217_581, e217_582, e217_583, e217_585, e217_588, e217_588n, e217_589, e217_590, e217_591, e217_593, e217_594, e217_595, e217_598, e217_599, e217_600, xKv, xK0, xKx, xKHv, xKH0, xk_none, xk_i, xk_f, xk_l, xk_r, xk_n, xc_i, xc_f, xc_l, xc_d, xc_r, xc_n, xo_some, List.map_cons, List.map_nil, List.sum_cons, List.sum_nil, xnzn, xpn0, xpn1, xpnb, xpnn, i10, i00, true_imp_iff, false_imp_iff, not_true_eq_false, not_false_eq_true, true_and, and_true, implies_true, xnz0, xnz1, xnzb, xfz0, xfz1, xfzb, Option.isSome_some, if_true, if_false, xbF, xbT, and_false, false_and, Nat.zero_le, Nat.reduceEqDiff, Nat.reduceLeDiff, Nat.reduceAdd, Nat.reduceSub, xiT, xiF, g3.1.is, en92, e92_0, e92_0n, e92_1, e92_4, th3, eq_self, tz]
    exact hx _ _ _ _ hG (by omega) (by omega)
theorem rd_strike (hK : KI κ) (hS : KS κ) (g : GI κ ad m o d x A τ σ ah th j) (hj : j < 512) (hk : 60 ≤ k) (hn : 8000 ≤ n) (v1 : vp_in (nI i + 1) sL = True) (v2 : vp_in (nI i + 2) sL = True) (v3 : vp_in (nI i + 3) sL = True) (v4 : vp_in (nI i + 4) sL = True) (v5 : vp_in (nI i + 5) sL = True) (v6 : vp_in (nI i + 6) sL = True) (hX : LX κ ad sb sL sx R m o d x i j k n) : xW (TL κ sb sL sx) (xm κ) R (603, [some (.ref sb), some (.ref x), some (.ref m), some (.ref o), some (.ref d), some (.int (nI i)), a6, a7], [], ah, k, n) := by
  obtain ⟨g2, hI, hN, hL, hJ⟩ := g
  simp (disch := omega) only [e217_603, e217_603n, e217_604, e217_604n, e217_605, e217_607, e217_608, e217_609, e217_610, e217_610n, e217_611, e217_613, e217_614, e217_615, e217_616, e217_616n, xKv, xK0, xKx, xKHv, xKH0, xk_none, xk_i, xk_f, xk_l, xk_r, xk_n, xc_i, xc_f, xc_l, xc_d, xc_r, xc_n, xo_some, List.map_cons, List.map_nil, List.sum_cons, List.sum_nil, xnzn, xpn0, xpn1, xpnb, xpnn, i10, i00, true_imp_iff, false_imp_iff, not_true_eq_false, not_false_eq_true, true_and, and_true, implies_true, xnz0, xnz1, xnzb, xfz0, xfz1, xfzb, Option.isSome_some, if_true, if_false, xbF, xbT, and_false, false_and, Nat.zero_le, Nat.reduceEqDiff, Nat.reduceLeDiff, Nat.reduceAdd, Nat.reduceSub, xiT, xiF, v1, v2, v3, v4, v5, v6, eq_self]
  rw [e217_617]
  refine ⟨⟨by decide, trivial, by omega, by omega⟩, sp_L_strike hK hS g2 hI hN hL (by omega) (fun A' τ' ah1 c1 l1 n1 o1 => ?_)⟩
  show xW _ _ _ _
  simp (disch := omega) only [e217_620, e217_622, e217_622n, e217_623, e217_623n, e217_624, e217_626, e217_627, e217_628, e217_629, e217_629n, e217_630, e217_632, e217_633, e217_634, xKv, xK0, xKx, xKHv, xKH0, xk_none, xk_i, xk_f, xk_l, xk_r, xk_n, xc_i, xc_f, xc_l, xc_d, xc_r, xc_n, xo_some, List.map_cons, List.map_nil, List.sum_cons, List.sum_nil, xnzn, xpn0, xpn1, xpnb, xpnn, i10, i00, true_imp_iff, false_imp_iff, not_true_eq_false, not_false_eq_true, true_and, and_true, implies_true, xnz0, xnz1, xnzb, xfz0, xfz1, xfzb, Option.isSome_some, if_true, if_false, xbF, xbT, and_false, false_and, Nat.zero_le, Nat.reduceEqDiff, Nat.reduceLeDiff, Nat.reduceAdd, Nat.reduceSub, xiT, xiF, v1, v2, v3, v4, v5, v6, eq_self]
  rw [e217_635]
  refine ⟨⟨by decide, c1.1.is⟩, sp_m_strike c1.1 hI (fun ah2 r2 => ?_)⟩
  have g3 := c1.md r2
  have th3 : xfld ah2 m 11 26 = some (.int (nI (t_strike σ (sx (nI i + 1).toNatClampNeg) (sx (nI i + 2).toNatClampNeg)))) := g3.1.1
  have tb : t_strike σ (sx (nI i + 1).toNatClampNeg) (sx (nI i + 2).toNatClampNeg) ≤ 3 := by unfold t_strike; repeat' (first | decide | apply xi_le)
  have hx := hX A' τ' (s_strike σ (sx (nI i + 1).toNatClampNeg) (sx (nI i + 2).toNatClampNeg)) ah2 (t_strike σ (sx (nI i + 1).toNatClampNeg) (sx (nI i + 2).toNatClampNeg))
  have hG : GI κ ad m o d x A' τ' (s_strike σ (sx (nI i + 1).toNatClampNeg) (sx (nI i + 2).toNatClampNeg)) ah2 (t_strike σ (sx (nI i + 1).toNatClampNeg) (sx (nI i + 2).toNatClampNeg)) (j + 1) := ⟨g3, MI_strike hI, NJ_strike hN, l1, by omega⟩
  show xW _ _ _ _
  by_cases ht : t_strike σ (sx (nI i + 1).toNatClampNeg) (sx (nI i + 2).toNatClampNeg) = 0
  · obtain ⟨f, hf, hf0⟩ := o1 ht
    rw [← tcN0] at hf0
    have hf2 : ah2 o = some (.inl (3, 1, .inr (.inl f))) := (r2.2.2.2.2 o c1.2.2.2.2.2.1 (fun c hc q => (c1.2.2.2.2.2.2.2.2 c hc).1 q.symm)).trans hf
    have fo : xal ah2 o = some (1, f) := xal_of hf2
    have tz : nI (t_strike σ (sx (nI i + 1).toNatClampNeg) (sx (nI i + 2).toNatClampNeg)) = 0 := by rw [ht]; rfl
    simp (disch := omega) only [e217_638, e217_640, e217_640n, e217_641, e217_644, e217_646, e217_649, e217_650, e217_651, e217_653, e217_656, e217_656n, e217_657, e217_658, e217_659, e217_661, e217_662, e217_663, e217_666, e217_667, e217_668, xKv, xK0, xKx, xKHv, xKH0, xk_none, xk_i, xk_f, xk_l, xk_r, xk_n, xc_i, xc_f, xc_l, xc_d, xc_r, xc_n, xo_some, List.map_cons, List.map_nil, List.sum_cons, List.sum_nil, xnzn, xpn0, xpn1, xpnb, xpnn, i10, i00, true_imp_iff, false_imp_iff, not_true_eq_false, not_false_eq_true, true_and, and_true, implies_true, xnz0, xnz1, xnzb, xfz0, xfz1, xfzb, Option.isSome_some, if_true, if_false, xbF, xbT, and_false, false_and, Nat.zero_le, Nat.reduceEqDiff, Nat.reduceLeDiff, Nat.reduceAdd, Nat.reduceSub, xiT, xiF, g3.1.is, en92, e92_0, e92_0n, e92_1, e92_4, th3, eq_self, tz, fo, vp01, hf0, lg_cmp_eq]
    exact hx _ _ _ _ hG (by omega) (by omega)
  · have tz : (nI (t_strike σ (sx (nI i + 1).toNatClampNeg) (sx (nI i + 2).toNatClampNeg)) = 0) = False := by rw [nI_z tb]; exact eq_false ht
    simp (disch := omega) only [e217_638, e217_640, e217_640n, e217_641, e217_644, e217_646, e217_649, e217_650, e217_651, e217_653, e217_656, e217_656n, e217_657, e217_658, e217_659, e217_661, e217_662, e217_663, e217_666, e217_667, e217_668, xKv, xK0, xKx, xKHv, xKH0, xk_none, xk_i, xk_f, xk_l, xk_r, xk_n, xc_i, xc_f, xc_l, xc_d, xc_r, xc_n, xo_some, List.map_cons, List.map_nil, List.sum_cons, List.sum_nil, xnzn, xpn0, xpn1, xpnb, xpnn, i10, i00, true_imp_iff, false_imp_iff, not_true_eq_false, not_false_eq_true, true_and, and_true, implies_true, xnz0, xnz1, xnzb, xfz0, xfz1, xfzb, Option.isSome_some, if_true, if_false, xbF, xbT, and_false, false_and, Nat.zero_le, Nat.reduceEqDiff, Nat.reduceLeDiff, Nat.reduceAdd, Nat.reduceSub, xiT, xiF, g3.1.is, en92, e92_0, e92_0n, e92_1, e92_4, th3, eq_self, tz]
    exact hx _ _ _ _ hG (by omega) (by omega)
theorem rd_pass (hK : KI κ) (hS : KS κ) (g : GI κ ad m o d x A τ σ ah th j) (hj : j < 512) (hk : 60 ≤ k) (hn : 8000 ≤ n) (v1 : vp_in (nI i + 1) sL = True) (v2 : vp_in (nI i + 2) sL = True) (v3 : vp_in (nI i + 3) sL = True) (v4 : vp_in (nI i + 4) sL = True) (v5 : vp_in (nI i + 5) sL = True) (v6 : vp_in (nI i + 6) sL = True) (hX : LX κ ad sb sL sx R m o d x i j k n) : xW (TL κ sb sL sx) (xm κ) R (671, [some (.ref sb), some (.ref x), some (.ref m), some (.ref o), some (.ref d), some (.int (nI i)), a6, a7], [], ah, k, n) := by
  obtain ⟨g2, hI, hN, hL, hJ⟩ := g
  simp (disch := omega) only [e217_671, e217_671n, e217_672, e217_672n, e217_673, e217_675, e217_676, e217_677, e217_678, e217_678n, xKv, xK0, xKx, xKHv, xKH0, xk_none, xk_i, xk_f, xk_l, xk_r, xk_n, xc_i, xc_f, xc_l, xc_d, xc_r, xc_n, xo_some, List.map_cons, List.map_nil, List.sum_cons, List.sum_nil, xnzn, xpn0, xpn1, xpnb, xpnn, i10, i00, true_imp_iff, false_imp_iff, not_true_eq_false, not_false_eq_true, true_and, and_true, implies_true, xnz0, xnz1, xnzb, xfz0, xfz1, xfzb, Option.isSome_some, if_true, if_false, xbF, xbT, and_false, false_and, Nat.zero_le, Nat.reduceEqDiff, Nat.reduceLeDiff, Nat.reduceAdd, Nat.reduceSub, xiT, xiF, v1, v2, v3, v4, v5, v6, eq_self]
  rw [e217_679]
  refine ⟨⟨by decide, trivial, by omega, by omega⟩, sp_L_pass hK hS g2 hI hN hL (by omega) (fun A' τ' ah1 c1 l1 n1 o1 => ?_)⟩
  show xW _ _ _ _
  simp (disch := omega) only [e217_682, e217_684, e217_684n, e217_685, e217_685n, e217_686, e217_688, e217_689, e217_690, xKv, xK0, xKx, xKHv, xKH0, xk_none, xk_i, xk_f, xk_l, xk_r, xk_n, xc_i, xc_f, xc_l, xc_d, xc_r, xc_n, xo_some, List.map_cons, List.map_nil, List.sum_cons, List.sum_nil, xnzn, xpn0, xpn1, xpnb, xpnn, i10, i00, true_imp_iff, false_imp_iff, not_true_eq_false, not_false_eq_true, true_and, and_true, implies_true, xnz0, xnz1, xnzb, xfz0, xfz1, xfzb, Option.isSome_some, if_true, if_false, xbF, xbT, and_false, false_and, Nat.zero_le, Nat.reduceEqDiff, Nat.reduceLeDiff, Nat.reduceAdd, Nat.reduceSub, xiT, xiF, v1, v2, v3, v4, v5, v6, eq_self]
  rw [e217_691]
  refine ⟨⟨by decide, c1.1.is⟩, sp_m_pass c1.1 hI hN.1 (fun ah2 r2 m9 n9 => ?_)⟩
  have g3 := c1.md r2
  have th3 : xfld ah2 m 11 26 = some (.int (nI (t_pass σ (sx (nI i + 1).toNatClampNeg)))) := g3.1.1
  have tb : t_pass σ (sx (nI i + 1).toNatClampNeg) ≤ 3 := by unfold t_pass; repeat' (first | decide | apply xi_le)
  have hx := hX A' τ' (s_pass σ (sx (nI i + 1).toNatClampNeg)) ah2 (t_pass σ (sx (nI i + 1).toNatClampNeg))
  have hG : GI κ ad m o d x A' τ' (s_pass σ (sx (nI i + 1).toNatClampNeg)) ah2 (t_pass σ (sx (nI i + 1).toNatClampNeg)) (j + 1) := ⟨g3, m9, NJ_pass hN hI n9, l1, by omega⟩
  show xW _ _ _ _
  by_cases ht : t_pass σ (sx (nI i + 1).toNatClampNeg) = 0
  · obtain ⟨f, hf, hf0⟩ := o1 ht
    rw [← tcN0] at hf0
    have hf2 : ah2 o = some (.inl (3, 1, .inr (.inl f))) := (r2.2.2.2.2 o c1.2.2.2.2.2.1 (fun c hc q => (c1.2.2.2.2.2.2.2.2 c hc).1 q.symm)).trans hf
    have fo : xal ah2 o = some (1, f) := xal_of hf2
    have tz : nI (t_pass σ (sx (nI i + 1).toNatClampNeg)) = 0 := by rw [ht]; rfl
    simp (disch := omega) only [e217_694, e217_696, e217_696n, e217_697, e217_700, e217_702, e217_705, e217_706, e217_707, e217_709, e217_712, e217_712n, e217_713, e217_714, e217_715, e217_717, e217_718, e217_719, e217_722, e217_723, e217_724, xKv, xK0, xKx, xKHv, xKH0, xk_none, xk_i, xk_f, xk_l, xk_r, xk_n, xc_i, xc_f, xc_l, xc_d, xc_r, xc_n, xo_some, List.map_cons, List.map_nil, List.sum_cons, List.sum_nil, xnzn, xpn0, xpn1, xpnb, xpnn, i10, i00, true_imp_iff, false_imp_iff, not_true_eq_false, not_false_eq_true, true_and, and_true, implies_true, xnz0, xnz1, xnzb, xfz0, xfz1, xfzb, Option.isSome_some, if_true, if_false, xbF, xbT, and_false, false_and, Nat.zero_le, Nat.reduceEqDiff, Nat.reduceLeDiff, Nat.reduceAdd, Nat.reduceSub, xiT, xiF, g3.1.is, en92, e92_0, e92_0n, e92_1, e92_4, th3, eq_self, tz, fo, vp01, hf0, lg_cmp_eq]
    exact hx _ _ _ _ hG (by omega) (by omega)
  · have tz : (nI (t_pass σ (sx (nI i + 1).toNatClampNeg)) = 0) = False := by rw [nI_z tb]; exact eq_false ht
    simp (disch := omega) only [e217_694, e217_696, e217_696n, e217_697, e217_700, e217_702, e217_705, e217_706, e217_707, e217_709, e217_712, e217_712n, e217_713, e217_714, e217_715, e217_717, e217_718, e217_719, e217_722, e217_723, e217_724, xKv, xK0, xKx, xKHv, xKH0, xk_none, xk_i, xk_f, xk_l, xk_r, xk_n, xc_i, xc_f, xc_l, xc_d, xc_r, xc_n, xo_some, List.map_cons, List.map_nil, List.sum_cons, List.sum_nil, xnzn, xpn0, xpn1, xpnb, xpnn, i10, i00, true_imp_iff, false_imp_iff, not_true_eq_false, not_false_eq_true, true_and, and_true, implies_true, xnz0, xnz1, xnzb, xfz0, xfz1, xfzb, Option.isSome_some, if_true, if_false, xbF, xbT, and_false, false_and, Nat.zero_le, Nat.reduceEqDiff, Nat.reduceLeDiff, Nat.reduceAdd, Nat.reduceSub, xiT, xiF, g3.1.is, en92, e92_0, e92_0n, e92_1, e92_4, th3, eq_self, tz]
    exact hx _ _ _ _ hG (by omega) (by omega)
theorem rd_ofCoat (hK : KI κ) (hS : KS κ) (g : GI κ ad m o d x A τ σ ah th j) (hj : j < 512) (hk : 60 ≤ k) (hn : 8000 ≤ n) (v1 : vp_in (nI i + 1) sL = True) (v2 : vp_in (nI i + 2) sL = True) (v3 : vp_in (nI i + 3) sL = True) (v4 : vp_in (nI i + 4) sL = True) (v5 : vp_in (nI i + 5) sL = True) (v6 : vp_in (nI i + 6) sL = True) (hX : LX κ ad sb sL sx R m o d x i j k n) : xW (TL κ sb sL sx) (xm κ) R (727, [some (.ref sb), some (.ref x), some (.ref m), some (.ref o), some (.ref d), some (.int (nI i)), a6, a7], [], ah, k, n) := by
  obtain ⟨g2, hI, hN, hL, hJ⟩ := g
  simp (disch := omega) only [e217_727, e217_727n, e217_728, e217_728n, e217_729, e217_731, e217_732, e217_733, e217_734, e217_734n, e217_735, e217_737, e217_738, e217_739, e217_740, e217_740n, e217_741, e217_743, e217_744, e217_745, e217_746, e217_746n, e217_747, e217_749, e217_750, e217_751, e217_752, e217_752n, xKv, xK0, xKx, xKHv, xKH0, xk_none, xk_i, xk_f, xk_l, xk_r, xk_n, xc_i, xc_f, xc_l, xc_d, xc_r, xc_n, xo_some, List.map_cons, List.map_nil, List.sum_cons, List.sum_nil, xnzn, xpn0, xpn1, xpnb, xpnn, i10, i00, true_imp_iff, false_imp_iff, not_true_eq_false, not_false_eq_true, true_and, and_true, implies_true, xnz0, xnz1, xnzb, xfz0, xfz1, xfzb, Option.isSome_some, if_true, if_false, xbF, xbT, and_false, false_and, Nat.zero_le, Nat.reduceEqDiff, Nat.reduceLeDiff, Nat.reduceAdd, Nat.reduceSub, xiT, xiF, v1, v2, v3, v4, v5, v6, eq_self]
  rw [e217_753]
  refine ⟨⟨by decide, trivial, by omega, by omega⟩, sp_L_ofCoat hK hS g2 hI hN hL (by omega) (fun A' τ' ah1 c1 l1 n1 o1 => ?_)⟩
  show xW _ _ _ _
  simp (disch := omega) only [e217_756, e217_758, e217_758n, e217_759, e217_759n, e217_760, e217_762, e217_763, e217_764, e217_765, e217_765n, e217_766, e217_768, e217_769, e217_770, e217_771, e217_771n, e217_772, e217_774, e217_775, e217_776, e217_777, e217_777n, e217_778, e217_780, e217_781, e217_782, xKv, xK0, xKx, xKHv, xKH0, xk_none, xk_i, xk_f, xk_l, xk_r, xk_n, xc_i, xc_f, xc_l, xc_d, xc_r, xc_n, xo_some, List.map_cons, List.map_nil, List.sum_cons, List.sum_nil, xnzn, xpn0, xpn1, xpnb, xpnn, i10, i00, true_imp_iff, false_imp_iff, not_true_eq_false, not_false_eq_true, true_and, and_true, implies_true, xnz0, xnz1, xnzb, xfz0, xfz1, xfzb, Option.isSome_some, if_true, if_false, xbF, xbT, and_false, false_and, Nat.zero_le, Nat.reduceEqDiff, Nat.reduceLeDiff, Nat.reduceAdd, Nat.reduceSub, xiT, xiF, v1, v2, v3, v4, v5, v6, eq_self]
  rw [e217_783]
  refine ⟨⟨by decide, c1.1.is⟩, sp_m_ofCoat c1.1 hI (fun ah2 r2 => ?_)⟩
  have g3 := c1.md r2
  have th3 : xfld ah2 m 11 26 = some (.int (nI (t_ofCoat σ (sx (nI i + 1).toNatClampNeg) (sx (nI i + 2).toNatClampNeg) (sx (nI i + 3).toNatClampNeg) (sx (nI i + 4).toNatClampNeg)))) := g3.1.1
  have tb : t_ofCoat σ (sx (nI i + 1).toNatClampNeg) (sx (nI i + 2).toNatClampNeg) (sx (nI i + 3).toNatClampNeg) (sx (nI i + 4).toNatClampNeg) ≤ 3 := by unfold t_ofCoat; repeat' (first | decide | apply xi_le)
  have hx := hX A' τ' σ ah2 (t_ofCoat σ (sx (nI i + 1).toNatClampNeg) (sx (nI i + 2).toNatClampNeg) (sx (nI i + 3).toNatClampNeg) (sx (nI i + 4).toNatClampNeg))
  have hG : GI κ ad m o d x A' τ' σ ah2 (t_ofCoat σ (sx (nI i + 1).toNatClampNeg) (sx (nI i + 2).toNatClampNeg) (sx (nI i + 3).toNatClampNeg) (sx (nI i + 4).toNatClampNeg)) (j + 1) := ⟨g3, hI, hN, l1, by omega⟩
  show xW _ _ _ _
  by_cases ht : t_ofCoat σ (sx (nI i + 1).toNatClampNeg) (sx (nI i + 2).toNatClampNeg) (sx (nI i + 3).toNatClampNeg) (sx (nI i + 4).toNatClampNeg) = 0
  · obtain ⟨f, hf, hf0⟩ := o1 ht
    rw [← tcN0] at hf0
    have hf2 : ah2 o = some (.inl (3, 1, .inr (.inl f))) := (r2.2.2.2.2 o c1.2.2.2.2.2.1 (fun c hc q => (c1.2.2.2.2.2.2.2.2 c hc).1 q.symm)).trans hf
    have fo : xal ah2 o = some (1, f) := xal_of hf2
    have tz : nI (t_ofCoat σ (sx (nI i + 1).toNatClampNeg) (sx (nI i + 2).toNatClampNeg) (sx (nI i + 3).toNatClampNeg) (sx (nI i + 4).toNatClampNeg)) = 0 := by rw [ht]; rfl
    simp (disch := omega) only [e217_786, e217_788, e217_788n, e217_789, e217_792, e217_794, e217_797, e217_798, e217_799, e217_801, e217_804, e217_804n, e217_805, e217_806, e217_807, e217_809, e217_810, e217_811, e217_814, e217_815, e217_816, xKv, xK0, xKx, xKHv, xKH0, xk_none, xk_i, xk_f, xk_l, xk_r, xk_n, xc_i, xc_f, xc_l, xc_d, xc_r, xc_n, xo_some, List.map_cons, List.map_nil, List.sum_cons, List.sum_nil, xnzn, xpn0, xpn1, xpnb, xpnn, i10, i00, true_imp_iff, false_imp_iff, not_true_eq_false, not_false_eq_true, true_and, and_true, implies_true, xnz0, xnz1, xnzb, xfz0, xfz1, xfzb, Option.isSome_some, if_true, if_false, xbF, xbT, and_false, false_and, Nat.zero_le, Nat.reduceEqDiff, Nat.reduceLeDiff, Nat.reduceAdd, Nat.reduceSub, xiT, xiF, g3.1.is, en92, e92_0, e92_0n, e92_1, e92_4, th3, eq_self, tz, fo, vp01, hf0, lg_cmp_eq]
    exact hx _ _ _ _ hG (by omega) (by omega)
  · have tz : (nI (t_ofCoat σ (sx (nI i + 1).toNatClampNeg) (sx (nI i + 2).toNatClampNeg) (sx (nI i + 3).toNatClampNeg) (sx (nI i + 4).toNatClampNeg)) = 0) = False := by rw [nI_z tb]; exact eq_false ht
    simp (disch := omega) only [e217_786, e217_788, e217_788n, e217_789, e217_792, e217_794, e217_797, e217_798, e217_799, e217_801, e217_804, e217_804n, e217_805, e217_806, e217_807, e217_809, e217_810, e217_811, e217_814, e217_815, e217_816, xKv, xK0, xKx, xKHv, xKH0, xk_none, xk_i, xk_f, xk_l, xk_r, xk_n, xc_i, xc_f, xc_l, xc_d, xc_r, xc_n, xo_some, List.map_cons, List.map_nil, List.sum_cons, List.sum_nil, xnzn, xpn0, xpn1, xpnb, xpnn, i10, i00, true_imp_iff, false_imp_iff, not_true_eq_false, not_false_eq_true, true_and, and_true, implies_true, xnz0, xnz1, xnzb, xfz0, xfz1, xfzb, Option.isSome_some, if_true, if_false, xbF, xbT, and_false, false_and, Nat.zero_le, Nat.reduceEqDiff, Nat.reduceLeDiff, Nat.reduceAdd, Nat.reduceSub, xiT, xiF, g3.1.is, en92, e92_0, e92_0n, e92_1, e92_4, th3, eq_self, tz]
    exact hx _ _ _ _ hG (by omega) (by omega)
theorem rd_coatsAnew (hK : KI κ) (hS : KS κ) (g : GI κ ad m o d x A τ σ ah th j) (hj : j < 512) (hk : 60 ≤ k) (hn : 8000 ≤ n) (v1 : vp_in (nI i + 1) sL = True) (v2 : vp_in (nI i + 2) sL = True) (v3 : vp_in (nI i + 3) sL = True) (v4 : vp_in (nI i + 4) sL = True) (v5 : vp_in (nI i + 5) sL = True) (v6 : vp_in (nI i + 6) sL = True) (hX : LX κ ad sb sL sx R m o d x i j k n) : xW (TL κ sb sL sx) (xm κ) R (819, [some (.ref sb), some (.ref x), some (.ref m), some (.ref o), some (.ref d), some (.int (nI i)), a6, a7], [], ah, k, n) := by
  obtain ⟨g2, hI, hN, hL, hJ⟩ := g
  simp (disch := omega) only [e217_819, e217_819n, e217_820, e217_820n, e217_821, e217_823, e217_824, e217_825, e217_826, e217_826n, e217_827, e217_829, e217_830, e217_831, e217_832, e217_832n, xKv, xK0, xKx, xKHv, xKH0, xk_none, xk_i, xk_f, xk_l, xk_r, xk_n, xc_i, xc_f, xc_l, xc_d, xc_r, xc_n, xo_some, List.map_cons, List.map_nil, List.sum_cons, List.sum_nil, xnzn, xpn0, xpn1, xpnb, xpnn, i10, i00, true_imp_iff, false_imp_iff, not_true_eq_false, not_false_eq_true, true_and, and_true, implies_true, xnz0, xnz1, xnzb, xfz0, xfz1, xfzb, Option.isSome_some, if_true, if_false, xbF, xbT, and_false, false_and, Nat.zero_le, Nat.reduceEqDiff, Nat.reduceLeDiff, Nat.reduceAdd, Nat.reduceSub, xiT, xiF, v1, v2, v3, v4, v5, v6, eq_self]
  rw [e217_833]
  refine ⟨⟨by decide, trivial, by omega, by omega⟩, sp_L_coatsAnew hK hS g2 hI hN hL (by omega) (fun A' τ' ah1 c1 l1 n1 o1 => ?_)⟩
  show xW _ _ _ _
  simp (disch := omega) only [e217_836, e217_838, e217_838n, e217_839, e217_839n, e217_840, e217_842, e217_843, e217_844, e217_845, e217_845n, e217_846, e217_848, e217_849, e217_850, xKv, xK0, xKx, xKHv, xKH0, xk_none, xk_i, xk_f, xk_l, xk_r, xk_n, xc_i, xc_f, xc_l, xc_d, xc_r, xc_n, xo_some, List.map_cons, List.map_nil, List.sum_cons, List.sum_nil, xnzn, xpn0, xpn1, xpnb, xpnn, i10, i00, true_imp_iff, false_imp_iff, not_true_eq_false, not_false_eq_true, true_and, and_true, implies_true, xnz0, xnz1, xnzb, xfz0, xfz1, xfzb, Option.isSome_some, if_true, if_false, xbF, xbT, and_false, false_and, Nat.zero_le, Nat.reduceEqDiff, Nat.reduceLeDiff, Nat.reduceAdd, Nat.reduceSub, xiT, xiF, v1, v2, v3, v4, v5, v6, eq_self]
  rw [e217_851]
  refine ⟨⟨by decide, c1.1.is⟩, sp_m_coatsAnew c1.1 hI (fun ah2 r2 => ?_)⟩
  have g3 := c1.md r2
  have th3 : xfld ah2 m 11 26 = some (.int (nI (t_coatsAnew σ (sx (nI i + 1).toNatClampNeg) (sx (nI i + 2).toNatClampNeg)))) := g3.1.1
  have tb : t_coatsAnew σ (sx (nI i + 1).toNatClampNeg) (sx (nI i + 2).toNatClampNeg) ≤ 3 := by unfold t_coatsAnew; repeat' (first | decide | apply xi_le)
  have hx := hX A' τ' σ ah2 (t_coatsAnew σ (sx (nI i + 1).toNatClampNeg) (sx (nI i + 2).toNatClampNeg))
  have hG : GI κ ad m o d x A' τ' σ ah2 (t_coatsAnew σ (sx (nI i + 1).toNatClampNeg) (sx (nI i + 2).toNatClampNeg)) (j + 1) := ⟨g3, hI, hN, l1, by omega⟩
  show xW _ _ _ _
  by_cases ht : t_coatsAnew σ (sx (nI i + 1).toNatClampNeg) (sx (nI i + 2).toNatClampNeg) = 0
  · obtain ⟨f, hf, hf0⟩ := o1 ht
    rw [← tcN0] at hf0
    have hf2 : ah2 o = some (.inl (3, 1, .inr (.inl f))) := (r2.2.2.2.2 o c1.2.2.2.2.2.1 (fun c hc q => (c1.2.2.2.2.2.2.2.2 c hc).1 q.symm)).trans hf
    have fo : xal ah2 o = some (1, f) := xal_of hf2
    have tz : nI (t_coatsAnew σ (sx (nI i + 1).toNatClampNeg) (sx (nI i + 2).toNatClampNeg)) = 0 := by rw [ht]; rfl
    simp (disch := omega) only [e217_854, e217_856, e217_856n, e217_857, e217_860, e217_862, e217_865, e217_866, e217_867, e217_869, e217_872, e217_872n, e217_873, e217_874, e217_875, e217_877, e217_878, e217_879, e217_882, e217_883, e217_884, xKv, xK0, xKx, xKHv, xKH0, xk_none, xk_i, xk_f, xk_l, xk_r, xk_n, xc_i, xc_f, xc_l, xc_d, xc_r, xc_n, xo_some, List.map_cons, List.map_nil, List.sum_cons, List.sum_nil, xnzn, xpn0, xpn1, xpnb, xpnn, i10, i00, true_imp_iff, false_imp_iff, not_true_eq_false, not_false_eq_true, true_and, and_true, implies_true, xnz0, xnz1, xnzb, xfz0, xfz1, xfzb, Option.isSome_some, if_true, if_false, xbF, xbT, and_false, false_and, Nat.zero_le, Nat.reduceEqDiff, Nat.reduceLeDiff, Nat.reduceAdd, Nat.reduceSub, xiT, xiF, g3.1.is, en92, e92_0, e92_0n, e92_1, e92_4, th3, eq_self, tz, fo, vp01, hf0, lg_cmp_eq]
    exact hx _ _ _ _ hG (by omega) (by omega)
  · have tz : (nI (t_coatsAnew σ (sx (nI i + 1).toNatClampNeg) (sx (nI i + 2).toNatClampNeg)) = 0) = False := by rw [nI_z tb]; exact eq_false ht
    simp (disch := omega) only [e217_854, e217_856, e217_856n, e217_857, e217_860, e217_862, e217_865, e217_866, e217_867, e217_869, e217_872, e217_872n, e217_873, e217_874, e217_875, e217_877, e217_878, e217_879, e217_882, e217_883, e217_884, xKv, xK0, xKx, xKHv, xKH0, xk_none, xk_i, xk_f, xk_l, xk_r, xk_n, xc_i, xc_f, xc_l, xc_d, xc_r, xc_n, xo_some, List.map_cons, List.map_nil, List.sum_cons, List.sum_nil, xnzn, xpn0, xpn1, xpnb, xpnn, i10, i00, true_imp_iff, false_imp_iff, not_true_eq_false, not_false_eq_true, true_and, and_true, implies_true, xnz0, xnz1, xnzb, xfz0, xfz1, xfzb, Option.isSome_some, if_true, if_false, xbF, xbT, and_false, false_and, Nat.zero_le, Nat.reduceEqDiff, Nat.reduceLeDiff, Nat.reduceAdd, Nat.reduceSub, xiT, xiF, g3.1.is, en92, e92_0, e92_0n, e92_1, e92_4, th3, eq_self, tz]
    exact hx _ _ _ _ hG (by omega) (by omega)
theorem rd_text (hK : KI κ) (hS : KS κ) (g : GI κ ad m o d x A τ σ ah th j) (hj : j < 512) (hk : 60 ≤ k) (hn : 8000 ≤ n) (v1 : vp_in (nI i + 1) sL = True) (v2 : vp_in (nI i + 2) sL = True) (v3 : vp_in (nI i + 3) sL = True) (v4 : vp_in (nI i + 4) sL = True) (v5 : vp_in (nI i + 5) sL = True) (v6 : vp_in (nI i + 6) sL = True) (hX : LX κ ad sb sL sx R m o d x i j k n) : xW (TL κ sb sL sx) (xm κ) R (887, [some (.ref sb), some (.ref x), some (.ref m), some (.ref o), some (.ref d), some (.int (nI i)), a6, a7], [], ah, k, n) := by
  obtain ⟨g2, hI, hN, hL, hJ⟩ := g
  simp (disch := omega) only [e217_887, e217_887n, e217_888, e217_888n, e217_889, e217_891, e217_892, e217_893, e217_894, e217_894n, e217_895, e217_897, e217_898, e217_899, e217_900, e217_900n, e217_901, e217_903, e217_904, e217_905, e217_906, e217_906n, e217_907, e217_909, e217_910, e217_911, e217_912, e217_912n, xKv, xK0, xKx, xKHv, xKH0, xk_none, xk_i, xk_f, xk_l, xk_r, xk_n, xc_i, xc_f, xc_l, xc_d, xc_r, xc_n, xo_some, List.map_cons, List.map_nil, List.sum_cons, List.sum_nil, xnzn, xpn0, xpn1, xpnb, xpnn, i10, i00, true_imp_iff, false_imp_iff, not_true_eq_false, not_false_eq_true, true_and, and_true, implies_true, xnz0, xnz1, xnzb, xfz0, xfz1, xfzb, Option.isSome_some, if_true, if_false, xbF, xbT, and_false, false_and, Nat.zero_le, Nat.reduceEqDiff, Nat.reduceLeDiff, Nat.reduceAdd, Nat.reduceSub, xiT, xiF, v1, v2, v3, v4, v5, v6, eq_self]
  rw [e217_913]
  refine ⟨⟨by decide, trivial, by omega, by omega⟩, sp_L_text hK hS g2 hI hN hL (by omega) (fun A' τ' ah1 c1 l1 n1 o1 => ?_)⟩
  show xW _ _ _ _
  simp (disch := omega) only [e217_916, e217_918, e217_918n, e217_919, e217_919n, e217_920, e217_922, e217_923, e217_924, e217_925, e217_925n, e217_926, e217_928, e217_929, e217_930, e217_931, e217_931n, e217_932, e217_934, e217_935, e217_936, e217_937, e217_937n, e217_938, e217_940, e217_941, e217_942, xKv, xK0, xKx, xKHv, xKH0, xk_none, xk_i, xk_f, xk_l, xk_r, xk_n, xc_i, xc_f, xc_l, xc_d, xc_r, xc_n, xo_some, List.map_cons, List.map_nil, List.sum_cons, List.sum_nil, xnzn, xpn0, xpn1, xpnb, xpnn, i10, i00, true_imp_iff, false_imp_iff, not_true_eq_false, not_false_eq_true, true_and, and_true, implies_true, xnz0, xnz1, xnzb, xfz0, xfz1, xfzb, Option.isSome_some, if_true, if_false, xbF, xbT, and_false, false_and, Nat.zero_le, Nat.reduceEqDiff, Nat.reduceLeDiff, Nat.reduceAdd, Nat.reduceSub, xiT, xiF, v1, v2, v3, v4, v5, v6, eq_self]
  rw [e217_943]
  refine ⟨⟨by decide, c1.1.is⟩, sp_m_text c1.1 hI (fun ah2 r2 => ?_)⟩
  have g3 := c1.md r2
  have th3 : xfld ah2 m 11 26 = some (.int (nI (t_text σ (sx (nI i + 1).toNatClampNeg) (sx (nI i + 2).toNatClampNeg) (sx (nI i + 3).toNatClampNeg) (sx (nI i + 4).toNatClampNeg)))) := g3.1.1
  have tb : t_text σ (sx (nI i + 1).toNatClampNeg) (sx (nI i + 2).toNatClampNeg) (sx (nI i + 3).toNatClampNeg) (sx (nI i + 4).toNatClampNeg) ≤ 3 := by unfold t_text; repeat' (first | decide | apply xi_le)
  have hx := hX A' τ' σ ah2 (t_text σ (sx (nI i + 1).toNatClampNeg) (sx (nI i + 2).toNatClampNeg) (sx (nI i + 3).toNatClampNeg) (sx (nI i + 4).toNatClampNeg))
  have hG : GI κ ad m o d x A' τ' σ ah2 (t_text σ (sx (nI i + 1).toNatClampNeg) (sx (nI i + 2).toNatClampNeg) (sx (nI i + 3).toNatClampNeg) (sx (nI i + 4).toNatClampNeg)) (j + 1) := ⟨g3, hI, hN, l1, by omega⟩
  show xW _ _ _ _
  by_cases ht : t_text σ (sx (nI i + 1).toNatClampNeg) (sx (nI i + 2).toNatClampNeg) (sx (nI i + 3).toNatClampNeg) (sx (nI i + 4).toNatClampNeg) = 0
  · obtain ⟨f, hf, hf0⟩ := o1 ht
    rw [← tcN0] at hf0
    have hf2 : ah2 o = some (.inl (3, 1, .inr (.inl f))) := (r2.2.2.2.2 o c1.2.2.2.2.2.1 (fun c hc q => (c1.2.2.2.2.2.2.2.2 c hc).1 q.symm)).trans hf
    have fo : xal ah2 o = some (1, f) := xal_of hf2
    have tz : nI (t_text σ (sx (nI i + 1).toNatClampNeg) (sx (nI i + 2).toNatClampNeg) (sx (nI i + 3).toNatClampNeg) (sx (nI i + 4).toNatClampNeg)) = 0 := by rw [ht]; rfl
    simp (disch := omega) only [e217_946, e217_948, e217_948n, e217_949, e217_952, e217_954, e217_957, e217_958, e217_959, e217_961, e217_964, e217_964n, e217_965, e217_966, e217_967, e217_969, e217_970, e217_971, e217_974, e217_975, e217_976, xKv, xK0, xKx, xKHv, xKH0, xk_none, xk_i, xk_f, xk_l, xk_r, xk_n, xc_i, xc_f, xc_l, xc_d, xc_r, xc_n, xo_some, List.map_cons, List.map_nil, List.sum_cons, List.sum_nil, xnzn, xpn0, xpn1, xpnb, xpnn, i10, i00, true_imp_iff, false_imp_iff, not_true_eq_false, not_false_eq_true, true_and, and_true, implies_true, xnz0, xnz1, xnzb, xfz0, xfz1, xfzb, Option.isSome_some, if_true, if_false, xbF, xbT, and_false, false_and, Nat.zero_le, Nat.reduceEqDiff, Nat.reduceLeDiff, Nat.reduceAdd, Nat.reduceSub, xiT, xiF, g3.1.is, en92, e92_0, e92_0n, e92_1, e92_4, th3, eq_self, tz, fo, vp01, hf0, lg_cmp_eq]
    exact hx _ _ _ _ hG (by omega) (by omega)
  · have tz : (nI (t_text σ (sx (nI i + 1).toNatClampNeg) (sx (nI i + 2).toNatClampNeg) (sx (nI i + 3).toNatClampNeg) (sx (nI i + 4).toNatClampNeg)) = 0) = False := by rw [nI_z tb]; exact eq_false ht
    simp (disch := omega) only [e217_946, e217_948, e217_948n, e217_949, e217_952, e217_954, e217_957, e217_958, e217_959, e217_961, e217_964, e217_964n, e217_965, e217_966, e217_967, e217_969, e217_970, e217_971, e217_974, e217_975, e217_976, xKv, xK0, xKx, xKHv, xKH0, xk_none, xk_i, xk_f, xk_l, xk_r, xk_n, xc_i, xc_f, xc_l, xc_d, xc_r, xc_n, xo_some, List.map_cons, List.map_nil, List.sum_cons, List.sum_nil, xnzn, xpn0, xpn1, xpnb, xpnn, i10, i00, true_imp_iff, false_imp_iff, not_true_eq_false, not_false_eq_true, true_and, and_true, implies_true, xnz0, xnz1, xnzb, xfz0, xfz1, xfzb, Option.isSome_some, if_true, if_false, xbF, xbT, and_false, false_and, Nat.zero_le, Nat.reduceEqDiff, Nat.reduceLeDiff, Nat.reduceAdd, Nat.reduceSub, xiT, xiF, g3.1.is, en92, e92_0, e92_0n, e92_1, e92_4, th3, eq_self, tz]
    exact hx _ _ _ _ hG (by omega) (by omega)
theorem rd_profile (hK : KI κ) (hS : KS κ) (g : GI κ ad m o d x A τ σ ah th j) (hj : j < 512) (hk : 60 ≤ k) (hn : 8000 ≤ n) (v1 : vp_in (nI i + 1) sL = True) (v2 : vp_in (nI i + 2) sL = True) (v3 : vp_in (nI i + 3) sL = True) (v4 : vp_in (nI i + 4) sL = True) (v5 : vp_in (nI i + 5) sL = True) (v6 : vp_in (nI i + 6) sL = True) (hX : LX κ ad sb sL sx R m o d x i j k n) : xW (TL κ sb sL sx) (xm κ) R (979, [some (.ref sb), some (.ref x), some (.ref m), some (.ref o), some (.ref d), some (.int (nI i)), a6, a7], [], ah, k, n) := by
  obtain ⟨g2, hI, hN, hL, hJ⟩ := g
  simp (disch := omega) only [e217_979, e217_979n, e217_980, e217_980n, e217_981, e217_983, e217_984, e217_985, e217_986, e217_986n, xKv, xK0, xKx, xKHv, xKH0, xk_none, xk_i, xk_f, xk_l, xk_r, xk_n, xc_i, xc_f, xc_l, xc_d, xc_r, xc_n, xo_some, List.map_cons, List.map_nil, List.sum_cons, List.sum_nil, xnzn, xpn0, xpn1, xpnb, xpnn, i10, i00, true_imp_iff, false_imp_iff, not_true_eq_false, not_false_eq_true, true_and, and_true, implies_true, xnz0, xnz1, xnzb, xfz0, xfz1, xfzb, Option.isSome_some, if_true, if_false, xbF, xbT, and_false, false_and, Nat.zero_le, Nat.reduceEqDiff, Nat.reduceLeDiff, Nat.reduceAdd, Nat.reduceSub, xiT, xiF, v1, v2, v3, v4, v5, v6, eq_self]
  rw [e217_987]
  refine ⟨⟨by decide, trivial, by omega, by omega⟩, sp_L_profile hK hS g2 hI hN hL (by omega) (fun A' τ' ah1 c1 l1 n1 o1 => ?_)⟩
  show xW _ _ _ _
  simp (disch := omega) only [e217_990, e217_992, e217_992n, e217_993, e217_993n, e217_994, e217_996, e217_997, e217_998, xKv, xK0, xKx, xKHv, xKH0, xk_none, xk_i, xk_f, xk_l, xk_r, xk_n, xc_i, xc_f, xc_l, xc_d, xc_r, xc_n, xo_some, List.map_cons, List.map_nil, List.sum_cons, List.sum_nil, xnzn, xpn0, xpn1, xpnb, xpnn, i10, i00, true_imp_iff, false_imp_iff, not_true_eq_false, not_false_eq_true, true_and, and_true, implies_true, xnz0, xnz1, xnzb, xfz0, xfz1, xfzb, Option.isSome_some, if_true, if_false, xbF, xbT, and_false, false_and, Nat.zero_le, Nat.reduceEqDiff, Nat.reduceLeDiff, Nat.reduceAdd, Nat.reduceSub, xiT, xiF, v1, v2, v3, v4, v5, v6, eq_self]
  rw [e217_999]
  refine ⟨⟨by decide, c1.1.is⟩, sp_m_profile c1.1 hI (fun ah2 r2 => ?_)⟩
  have g3 := c1.md r2
  have th3 : xfld ah2 m 11 26 = some (.int (nI (t_profile σ (sx (nI i + 1).toNatClampNeg)))) := g3.1.1
  have tb : t_profile σ (sx (nI i + 1).toNatClampNeg) ≤ 3 := by unfold t_profile; repeat' (first | decide | apply xi_le)
  have hx := hX A' τ' (s_profile σ (sx (nI i + 1).toNatClampNeg)) ah2 (t_profile σ (sx (nI i + 1).toNatClampNeg))
  have hG : GI κ ad m o d x A' τ' (s_profile σ (sx (nI i + 1).toNatClampNeg)) ah2 (t_profile σ (sx (nI i + 1).toNatClampNeg)) (j + 1) := ⟨g3, MI_profile hI, NJ_profile hN, l1, by omega⟩
  show xW _ _ _ _
  by_cases ht : t_profile σ (sx (nI i + 1).toNatClampNeg) = 0
  · obtain ⟨f, hf, hf0⟩ := o1 ht
    rw [← tcN0] at hf0
    have hf2 : ah2 o = some (.inl (3, 1, .inr (.inl f))) := (r2.2.2.2.2 o c1.2.2.2.2.2.1 (fun c hc q => (c1.2.2.2.2.2.2.2.2 c hc).1 q.symm)).trans hf
    have fo : xal ah2 o = some (1, f) := xal_of hf2
    have tz : nI (t_profile σ (sx (nI i + 1).toNatClampNeg)) = 0 := by rw [ht]; rfl
    simp (disch := omega) only [e217_1002, e217_1004, e217_1004n, e217_1005, e217_1008, e217_1010, e217_1013, e217_1014, e217_1015, e217_1017, e217_1020, e217_1020n, e217_1021, e217_1022, e217_1023, e217_1025, e217_1026, e217_1027, e217_1030, e217_1031, e217_1032, xKv, xK0, xKx, xKHv, xKH0, xk_none, xk_i, xk_f, xk_l, xk_r, xk_n, xc_i, xc_f, xc_l, xc_d, xc_r, xc_n, xo_some, List.map_cons, List.map_nil, List.sum_cons, List.sum_nil, xnzn, xpn0, xpn1, xpnb, xpnn, i10, i00, true_imp_iff, false_imp_iff, not_true_eq_false, not_false_eq_true, true_and, and_true, implies_true, xnz0, xnz1, xnzb, xfz0, xfz1, xfzb, Option.isSome_some, if_true, if_false, xbF, xbT, and_false, false_and, Nat.zero_le, Nat.reduceEqDiff, Nat.reduceLeDiff, Nat.reduceAdd, Nat.reduceSub, xiT, xiF, g3.1.is, en92, e92_0, e92_0n, e92_1, e92_4, th3, eq_self, tz, fo, vp01, hf0, lg_cmp_eq]
    exact hx _ _ _ _ hG (by omega) (by omega)
  · have tz : (nI (t_profile σ (sx (nI i + 1).toNatClampNeg)) = 0) = False := by rw [nI_z tb]; exact eq_false ht
    simp (disch := omega) only [e217_1002, e217_1004, e217_1004n, e217_1005, e217_1008, e217_1010, e217_1013, e217_1014, e217_1015, e217_1017, e217_1020, e217_1020n, e217_1021, e217_1022, e217_1023, e217_1025, e217_1026, e217_1027, e217_1030, e217_1031, e217_1032, xKv, xK0, xKx, xKHv, xKH0, xk_none, xk_i, xk_f, xk_l, xk_r, xk_n, xc_i, xc_f, xc_l, xc_d, xc_r, xc_n, xo_some, List.map_cons, List.map_nil, List.sum_cons, List.sum_nil, xnzn, xpn0, xpn1, xpnb, xpnn, i10, i00, true_imp_iff, false_imp_iff, not_true_eq_false, not_false_eq_true, true_and, and_true, implies_true, xnz0, xnz1, xnzb, xfz0, xfz1, xfzb, Option.isSome_some, if_true, if_false, xbF, xbT, and_false, false_and, Nat.zero_le, Nat.reduceEqDiff, Nat.reduceLeDiff, Nat.reduceAdd, Nat.reduceSub, xiT, xiF, g3.1.is, en92, e92_0, e92_0n, e92_1, e92_4, th3, eq_self, tz]
    exact hx _ _ _ _ hG (by omega) (by omega)
theorem rd_depth (hK : KI κ) (hS : KS κ) (g : GI κ ad m o d x A τ σ ah th j) (hj : j < 512) (hk : 60 ≤ k) (hn : 8000 ≤ n) (v1 : vp_in (nI i + 1) sL = True) (v2 : vp_in (nI i + 2) sL = True) (v3 : vp_in (nI i + 3) sL = True) (v4 : vp_in (nI i + 4) sL = True) (v5 : vp_in (nI i + 5) sL = True) (v6 : vp_in (nI i + 6) sL = True) (hX : LX κ ad sb sL sx R m o d x i j k n) : xW (TL κ sb sL sx) (xm κ) R (1035, [some (.ref sb), some (.ref x), some (.ref m), some (.ref o), some (.ref d), some (.int (nI i)), a6, a7], [], ah, k, n) := by
  obtain ⟨g2, hI, hN, hL, hJ⟩ := g
  simp (disch := omega) only [e217_1035, e217_1035n, e217_1036, e217_1036n, e217_1037, e217_1039, e217_1040, e217_1041, e217_1042, e217_1042n, e217_1043, e217_1045, e217_1046, e217_1047, e217_1048, e217_1048n, xKv, xK0, xKx, xKHv, xKH0, xk_none, xk_i, xk_f, xk_l, xk_r, xk_n, xc_i, xc_f, xc_l, xc_d, xc_r, xc_n, xo_some, List.map_cons, List.map_nil, List.sum_cons, List.sum_nil, xnzn, xpn0, xpn1, xpnb, xpnn, i10, i00, true_imp_iff, false_imp_iff, not_true_eq_false, not_false_eq_true, true_and, and_true, implies_true, xnz0, xnz1, xnzb, xfz0, xfz1, xfzb, Option.isSome_some, if_true, if_false, xbF, xbT, and_false, false_and, Nat.zero_le, Nat.reduceEqDiff, Nat.reduceLeDiff, Nat.reduceAdd, Nat.reduceSub, xiT, xiF, v1, v2, v3, v4, v5, v6, eq_self]
  rw [e217_1049]
  refine ⟨⟨by decide, trivial, by omega, by omega⟩, sp_L_depth hK hS g2 hI hN hL (by omega) (fun A' τ' ah1 c1 l1 n1 o1 => ?_)⟩
  show xW _ _ _ _
  simp (disch := omega) only [e217_1052, e217_1054, e217_1054n, e217_1055, e217_1055n, e217_1056, e217_1058, e217_1059, e217_1060, e217_1061, e217_1061n, e217_1062, e217_1064, e217_1065, e217_1066, xKv, xK0, xKx, xKHv, xKH0, xk_none, xk_i, xk_f, xk_l, xk_r, xk_n, xc_i, xc_f, xc_l, xc_d, xc_r, xc_n, xo_some, List.map_cons, List.map_nil, List.sum_cons, List.sum_nil, xnzn, xpn0, xpn1, xpnb, xpnn, i10, i00, true_imp_iff, false_imp_iff, not_true_eq_false, not_false_eq_true, true_and, and_true, implies_true, xnz0, xnz1, xnzb, xfz0, xfz1, xfzb, Option.isSome_some, if_true, if_false, xbF, xbT, and_false, false_and, Nat.zero_le, Nat.reduceEqDiff, Nat.reduceLeDiff, Nat.reduceAdd, Nat.reduceSub, xiT, xiF, v1, v2, v3, v4, v5, v6, eq_self]
  rw [e217_1067]
  refine ⟨⟨by decide, c1.1.is⟩, sp_m_depth c1.1 hI (fun ah2 r2 => ?_)⟩
  have g3 := c1.md r2
  have th3 : xfld ah2 m 11 26 = some (.int (nI (t_depth σ (sx (nI i + 1).toNatClampNeg) (sx (nI i + 2).toNatClampNeg)))) := g3.1.1
  have tb : t_depth σ (sx (nI i + 1).toNatClampNeg) (sx (nI i + 2).toNatClampNeg) ≤ 3 := by unfold t_depth; repeat' (first | decide | apply xi_le)
  have hx := hX A' τ' (s_depth σ (sx (nI i + 1).toNatClampNeg) (sx (nI i + 2).toNatClampNeg)) ah2 (t_depth σ (sx (nI i + 1).toNatClampNeg) (sx (nI i + 2).toNatClampNeg))
  have hG : GI κ ad m o d x A' τ' (s_depth σ (sx (nI i + 1).toNatClampNeg) (sx (nI i + 2).toNatClampNeg)) ah2 (t_depth σ (sx (nI i + 1).toNatClampNeg) (sx (nI i + 2).toNatClampNeg)) (j + 1) := ⟨g3, MI_depth hI, NJ_depth hN, l1, by omega⟩
  show xW _ _ _ _
  by_cases ht : t_depth σ (sx (nI i + 1).toNatClampNeg) (sx (nI i + 2).toNatClampNeg) = 0
  · obtain ⟨f, hf, hf0⟩ := o1 ht
    rw [← tcN0] at hf0
    have hf2 : ah2 o = some (.inl (3, 1, .inr (.inl f))) := (r2.2.2.2.2 o c1.2.2.2.2.2.1 (fun c hc q => (c1.2.2.2.2.2.2.2.2 c hc).1 q.symm)).trans hf
    have fo : xal ah2 o = some (1, f) := xal_of hf2
    have tz : nI (t_depth σ (sx (nI i + 1).toNatClampNeg) (sx (nI i + 2).toNatClampNeg)) = 0 := by rw [ht]; rfl
    simp (disch := omega) only [e217_1070, e217_1072, e217_1072n, e217_1073, e217_1076, e217_1078, e217_1081, e217_1082, e217_1083, e217_1085, e217_1088, e217_1088n, e217_1089, e217_1090, e217_1091, e217_1093, e217_1094, e217_1095, e217_1098, e217_1099, e217_1100, xKv, xK0, xKx, xKHv, xKH0, xk_none, xk_i, xk_f, xk_l, xk_r, xk_n, xc_i, xc_f, xc_l, xc_d, xc_r, xc_n, xo_some, List.map_cons, List.map_nil, List.sum_cons, List.sum_nil, xnzn, xpn0, xpn1, xpnb, xpnn, i10, i00, true_imp_iff, false_imp_iff, not_true_eq_false, not_false_eq_true, true_and, and_true, implies_true, xnz0, xnz1, xnzb, xfz0, xfz1, xfzb, Option.isSome_some, if_true, if_false, xbF, xbT, and_false, false_and, Nat.zero_le, Nat.reduceEqDiff, Nat.reduceLeDiff, Nat.reduceAdd, Nat.reduceSub, xiT, xiF, g3.1.is, en92, e92_0, e92_0n, e92_1, e92_4, th3, eq_self, tz, fo, vp01, hf0, lg_cmp_eq]
    exact hx _ _ _ _ hG (by omega) (by omega)
  · have tz : (nI (t_depth σ (sx (nI i + 1).toNatClampNeg) (sx (nI i + 2).toNatClampNeg)) = 0) = False := by rw [nI_z tb]; exact eq_false ht
    simp (disch := omega) only [e217_1070, e217_1072, e217_1072n, e217_1073, e217_1076, e217_1078, e217_1081, e217_1082, e217_1083, e217_1085, e217_1088, e217_1088n, e217_1089, e217_1090, e217_1091, e217_1093, e217_1094, e217_1095, e217_1098, e217_1099, e217_1100, xKv, xK0, xKx, xKHv, xKH0, xk_none, xk_i, xk_f, xk_l, xk_r, xk_n, xc_i, xc_f, xc_l, xc_d, xc_r, xc_n, xo_some, List.map_cons, List.map_nil, List.sum_cons, List.sum_nil, xnzn, xpn0, xpn1, xpnb, xpnn, i10, i00, true_imp_iff, false_imp_iff, not_true_eq_false, not_false_eq_true, true_and, and_true, implies_true, xnz0, xnz1, xnzb, xfz0, xfz1, xfzb, Option.isSome_some, if_true, if_false, xbF, xbT, and_false, false_and, Nat.zero_le, Nat.reduceEqDiff, Nat.reduceLeDiff, Nat.reduceAdd, Nat.reduceSub, xiT, xiF, g3.1.is, en92, e92_0, e92_0n, e92_1, e92_4, th3, eq_self, tz]
    exact hx _ _ _ _ hG (by omega) (by omega)
theorem rd_mitre (hK : KI κ) (hS : KS κ) (g : GI κ ad m o d x A τ σ ah th j) (hj : j < 512) (hk : 60 ≤ k) (hn : 8000 ≤ n) (v1 : vp_in (nI i + 1) sL = True) (v2 : vp_in (nI i + 2) sL = True) (v3 : vp_in (nI i + 3) sL = True) (v4 : vp_in (nI i + 4) sL = True) (v5 : vp_in (nI i + 5) sL = True) (v6 : vp_in (nI i + 6) sL = True) (hX : LX κ ad sb sL sx R m o d x i j k n) : xW (TL κ sb sL sx) (xm κ) R (1103, [some (.ref sb), some (.ref x), some (.ref m), some (.ref o), some (.ref d), some (.int (nI i)), a6, a7], [], ah, k, n) := by
  obtain ⟨g2, hI, hN, hL, hJ⟩ := g
  have hv : t_mitre σ (sx (nI i + 1).toNatClampNeg) (sx (nI i + 2).toNatClampNeg) = 0 → vf_n64 (FP.f2d (v_mitre σ (sx (nI i + 1).toNatClampNeg) (sx (nI i + 2).toNatClampNeg))) := fun h => f2dN (mitN hI h)
  simp (disch := omega) only [e217_1103, e217_1103n, e217_1104, e217_1104n, e217_1105, e217_1107, e217_1108, e217_1109, e217_1110, e217_1110n, e217_1111, e217_1113, e217_1114, e217_1115, e217_1116, e217_1116n, xKv, xK0, xKx, xKHv, xKH0, xk_none, xk_i, xk_f, xk_l, xk_r, xk_n, xc_i, xc_f, xc_l, xc_d, xc_r, xc_n, xo_some, List.map_cons, List.map_nil, List.sum_cons, List.sum_nil, xnzn, xpn0, xpn1, xpnb, xpnn, i10, i00, true_imp_iff, false_imp_iff, not_true_eq_false, not_false_eq_true, true_and, and_true, implies_true, xnz0, xnz1, xnzb, xfz0, xfz1, xfzb, Option.isSome_some, if_true, if_false, xbF, xbT, and_false, false_and, Nat.zero_le, Nat.reduceEqDiff, Nat.reduceLeDiff, Nat.reduceAdd, Nat.reduceSub, xiT, xiF, v1, v2, v3, v4, v5, v6, eq_self]
  rw [e217_1118]
  refine ⟨⟨by decide, trivial, by omega, by omega⟩, sp_L_mitre hK hS g2 hI hN hL (by omega) hv (fun A' τ' ah1 c1 l1 n1 o1 => ?_)⟩
  show xW _ _ _ _
  simp (disch := omega) only [e217_1121, e217_1123, e217_1123n, e217_1124, e217_1124n, e217_1125, e217_1127, e217_1128, e217_1129, e217_1130, e217_1130n, e217_1131, e217_1133, e217_1134, e217_1135, xKv, xK0, xKx, xKHv, xKH0, xk_none, xk_i, xk_f, xk_l, xk_r, xk_n, xc_i, xc_f, xc_l, xc_d, xc_r, xc_n, xo_some, List.map_cons, List.map_nil, List.sum_cons, List.sum_nil, xnzn, xpn0, xpn1, xpnb, xpnn, i10, i00, true_imp_iff, false_imp_iff, not_true_eq_false, not_false_eq_true, true_and, and_true, implies_true, xnz0, xnz1, xnzb, xfz0, xfz1, xfzb, Option.isSome_some, if_true, if_false, xbF, xbT, and_false, false_and, Nat.zero_le, Nat.reduceEqDiff, Nat.reduceLeDiff, Nat.reduceAdd, Nat.reduceSub, xiT, xiF, v1, v2, v3, v4, v5, v6, eq_self]
  rw [e217_1136]
  refine ⟨⟨by decide, c1.1.is⟩, sp_m_mitre c1.1 hI (fun ah2 r2 => ?_)⟩
  have g3 := c1.md r2
  have th3 : xfld ah2 m 11 26 = some (.int (nI (t_mitre σ (sx (nI i + 1).toNatClampNeg) (sx (nI i + 2).toNatClampNeg)))) := g3.1.1
  have tb : t_mitre σ (sx (nI i + 1).toNatClampNeg) (sx (nI i + 2).toNatClampNeg) ≤ 3 := by unfold t_mitre; repeat' (first | decide | apply xi_le)
  have hx := hX A' τ' σ ah2 (t_mitre σ (sx (nI i + 1).toNatClampNeg) (sx (nI i + 2).toNatClampNeg))
  have hG : GI κ ad m o d x A' τ' σ ah2 (t_mitre σ (sx (nI i + 1).toNatClampNeg) (sx (nI i + 2).toNatClampNeg)) (j + 1) := ⟨g3, hI, hN, l1, by omega⟩
  show xW _ _ _ _
  by_cases ht : t_mitre σ (sx (nI i + 1).toNatClampNeg) (sx (nI i + 2).toNatClampNeg) = 0
  · obtain ⟨f, hf, hf0⟩ := o1 ht
    rw [← tcN0] at hf0
    have hf2 : ah2 d = some (.inl (4, 1, .inr (.inr (.inr (.inl f))))) := (r2.2.2.2.2 d c1.2.2.2.2.2.2.1 (fun c hc q => (c1.2.2.2.2.2.2.2.2 c hc).2 q.symm)).trans hf
    have fo : xad ah2 d = some (1, f) := xad_of hf2
    have hv0 := eq_true (hv ht)
    have hdc := dself (hv ht)
    have tz : nI (t_mitre σ (sx (nI i + 1).toNatClampNeg) (sx (nI i + 2).toNatClampNeg)) = 0 := by rw [ht]; rfl
    simp (disch := omega) only [e217_1139, e217_1141, e217_1141n, e217_1142, e217_1145, e217_1147, e217_1150, e217_1151, e217_1152, e217_1154, e217_1157, e217_1157n, e217_1159, e217_1160, e217_1161, e217_1163, e217_1164, e217_1165, e217_1168, e217_1168n, e217_1170, e217_1171, e217_1172, e217_1172n, e217_1174, e217_1175, e217_1176, e217_1177, e217_1180, e217_1182, e217_1184, e217_1185, e217_1188, e217_1189, e217_1190, xKv, xK0, xKx, xKHv, xKH0, xk_none, xk_i, xk_f, xk_l, xk_r, xk_n, xc_i, xc_f, xc_l, xc_d, xc_r, xc_n, xo_some, List.map_cons, List.map_nil, List.sum_cons, List.sum_nil, xnzn, xpn0, xpn1, xpnb, xpnn, i10, i00, true_imp_iff, false_imp_iff, not_true_eq_false, not_false_eq_true, true_and, and_true, implies_true, xnz0, xnz1, xnzb, xfz0, xfz1, xfzb, Option.isSome_some, if_true, if_false, xbF, xbT, and_false, false_and, Nat.zero_le, Nat.reduceEqDiff, Nat.reduceLeDiff, Nat.reduceAdd, Nat.reduceSub, xiT, xiF, g3.1.is, en92, e92_0, e92_0n, e92_1, e92_4, th3, eq_self, tz, fo, vp01, hf0, hv0, hdc]
    exact hx _ _ _ _ hG (by omega) (by omega)
  · have tz : (nI (t_mitre σ (sx (nI i + 1).toNatClampNeg) (sx (nI i + 2).toNatClampNeg)) = 0) = False := by rw [nI_z tb]; exact eq_false ht
    simp (disch := omega) only [e217_1139, e217_1141, e217_1141n, e217_1142, e217_1145, e217_1147, e217_1150, e217_1151, e217_1152, e217_1154, e217_1157, e217_1157n, e217_1159, e217_1160, e217_1161, e217_1163, e217_1164, e217_1165, e217_1168, e217_1168n, e217_1170, e217_1171, e217_1172, e217_1172n, e217_1174, e217_1175, e217_1176, e217_1177, e217_1180, e217_1182, e217_1184, e217_1185, e217_1188, e217_1189, e217_1190, xKv, xK0, xKx, xKHv, xKH0, xk_none, xk_i, xk_f, xk_l, xk_r, xk_n, xc_i, xc_f, xc_l, xc_d, xc_r, xc_n, xo_some, List.map_cons, List.map_nil, List.sum_cons, List.sum_nil, xnzn, xpn0, xpn1, xpnb, xpnn, i10, i00, true_imp_iff, false_imp_iff, not_true_eq_false, not_false_eq_true, true_and, and_true, implies_true, xnz0, xnz1, xnzb, xfz0, xfz1, xfzb, Option.isSome_some, if_true, if_false, xbF, xbT, and_false, false_and, Nat.zero_le, Nat.reduceEqDiff, Nat.reduceLeDiff, Nat.reduceAdd, Nat.reduceSub, xiT, xiF, g3.1.is, en92, e92_0, e92_0n, e92_1, e92_4, th3, eq_self, tz]
    exact hx _ _ _ _ hG (by omega) (by omega)
theorem rd_fits (hK : KI κ) (hS : KS κ) (g : GI κ ad m o d x A τ σ ah th j) (hj : j < 512) (hk : 60 ≤ k) (hn : 8000 ≤ n) (v1 : vp_in (nI i + 1) sL = True) (v2 : vp_in (nI i + 2) sL = True) (v3 : vp_in (nI i + 3) sL = True) (v4 : vp_in (nI i + 4) sL = True) (v5 : vp_in (nI i + 5) sL = True) (v6 : vp_in (nI i + 6) sL = True) (hX : LX κ ad sb sL sx R m o d x i j k n) : xW (TL κ sb sL sx) (xm κ) R (1193, [some (.ref sb), some (.ref x), some (.ref m), some (.ref o), some (.ref d), some (.int (nI i)), a6, a7], [], ah, k, n) := by
  obtain ⟨g2, hI, hN, hL, hJ⟩ := g
  simp (disch := omega) only [e217_1193, e217_1193n, e217_1194, e217_1194n, e217_1195, e217_1197, e217_1198, e217_1199, e217_1200, e217_1200n, e217_1201, e217_1203, e217_1204, e217_1205, e217_1206, e217_1206n, xKv, xK0, xKx, xKHv, xKH0, xk_none, xk_i, xk_f, xk_l, xk_r, xk_n, xc_i, xc_f, xc_l, xc_d, xc_r, xc_n, xo_some, List.map_cons, List.map_nil, List.sum_cons, List.sum_nil, xnzn, xpn0, xpn1, xpnb, xpnn, i10, i00, true_imp_iff, false_imp_iff, not_true_eq_false, not_false_eq_true, true_and, and_true, implies_true, xnz0, xnz1, xnzb, xfz0, xfz1, xfzb, Option.isSome_some, if_true, if_false, xbF, xbT, and_false, false_and, Nat.zero_le, Nat.reduceEqDiff, Nat.reduceLeDiff, Nat.reduceAdd, Nat.reduceSub, xiT, xiF, v1, v2, v3, v4, v5, v6, eq_self]
  rw [e217_1207]
  refine ⟨⟨by decide, trivial, by omega, by omega⟩, sp_L_fits hK hS g2 hI hN hL (by omega) (fun A' τ' ah1 c1 l1 n1 o1 => ?_)⟩
  show xW _ _ _ _
  simp (disch := omega) only [e217_1210, e217_1212, e217_1212n, e217_1213, e217_1213n, e217_1214, e217_1216, e217_1217, e217_1218, e217_1219, e217_1219n, e217_1220, e217_1222, e217_1223, e217_1224, xKv, xK0, xKx, xKHv, xKH0, xk_none, xk_i, xk_f, xk_l, xk_r, xk_n, xc_i, xc_f, xc_l, xc_d, xc_r, xc_n, xo_some, List.map_cons, List.map_nil, List.sum_cons, List.sum_nil, xnzn, xpn0, xpn1, xpnb, xpnn, i10, i00, true_imp_iff, false_imp_iff, not_true_eq_false, not_false_eq_true, true_and, and_true, implies_true, xnz0, xnz1, xnzb, xfz0, xfz1, xfzb, Option.isSome_some, if_true, if_false, xbF, xbT, and_false, false_and, Nat.zero_le, Nat.reduceEqDiff, Nat.reduceLeDiff, Nat.reduceAdd, Nat.reduceSub, xiT, xiF, v1, v2, v3, v4, v5, v6, eq_self]
  rw [e217_1225]
  refine ⟨⟨by decide, c1.1.is⟩, sp_m_fits c1.1 (fun ah2 r2 => ?_)⟩
  have g3 := c1.md r2
  have th3 : xfld ah2 m 11 26 = some (.int (nI (t_fits (sx (nI i + 1).toNatClampNeg) (sx (nI i + 2).toNatClampNeg)))) := g3.1.1
  have tb : t_fits (sx (nI i + 1).toNatClampNeg) (sx (nI i + 2).toNatClampNeg) ≤ 3 := by unfold t_fits; repeat' (first | decide | apply xi_le)
  have hx := hX A' τ' σ ah2 (t_fits (sx (nI i + 1).toNatClampNeg) (sx (nI i + 2).toNatClampNeg))
  have hG : GI κ ad m o d x A' τ' σ ah2 (t_fits (sx (nI i + 1).toNatClampNeg) (sx (nI i + 2).toNatClampNeg)) (j + 1) := ⟨g3, hI, hN, l1, by omega⟩
  show xW _ _ _ _
  by_cases ht : t_fits (sx (nI i + 1).toNatClampNeg) (sx (nI i + 2).toNatClampNeg) = 0
  · obtain ⟨f, hf, hf0⟩ := o1 ht
    rw [← tcN0] at hf0
    have hf2 : ah2 o = some (.inl (3, 1, .inr (.inl f))) := (r2.2.2.2.2 o c1.2.2.2.2.2.1 (fun c hc q => (c1.2.2.2.2.2.2.2.2 c hc).1 q.symm)).trans hf
    have fo : xal ah2 o = some (1, f) := xal_of hf2
    have tz : nI (t_fits (sx (nI i + 1).toNatClampNeg) (sx (nI i + 2).toNatClampNeg)) = 0 := by rw [ht]; rfl
    simp (disch := omega) only [e217_1228, e217_1230, e217_1230n, e217_1231, e217_1234, e217_1236, e217_1239, e217_1240, e217_1241, e217_1243, e217_1246, e217_1246n, e217_1247, e217_1248, e217_1249, e217_1251, e217_1252, e217_1253, e217_1256, e217_1257, e217_1258, xKv, xK0, xKx, xKHv, xKH0, xk_none, xk_i, xk_f, xk_l, xk_r, xk_n, xc_i, xc_f, xc_l, xc_d, xc_r, xc_n, xo_some, List.map_cons, List.map_nil, List.sum_cons, List.sum_nil, xnzn, xpn0, xpn1, xpnb, xpnn, i10, i00, true_imp_iff, false_imp_iff, not_true_eq_false, not_false_eq_true, true_and, and_true, implies_true, xnz0, xnz1, xnzb, xfz0, xfz1, xfzb, Option.isSome_some, if_true, if_false, xbF, xbT, and_false, false_and, Nat.zero_le, Nat.reduceEqDiff, Nat.reduceLeDiff, Nat.reduceAdd, Nat.reduceSub, xiT, xiF, g3.1.is, en92, e92_0, e92_0n, e92_1, e92_4, th3, eq_self, tz, fo, vp01, hf0, lg_cmp_eq]
    exact hx _ _ _ _ hG (by omega) (by omega)
  · have tz : (nI (t_fits (sx (nI i + 1).toNatClampNeg) (sx (nI i + 2).toNatClampNeg)) = 0) = False := by rw [nI_z tb]; exact eq_false ht
    simp (disch := omega) only [e217_1228, e217_1230, e217_1230n, e217_1231, e217_1234, e217_1236, e217_1239, e217_1240, e217_1241, e217_1243, e217_1246, e217_1246n, e217_1247, e217_1248, e217_1249, e217_1251, e217_1252, e217_1253, e217_1256, e217_1257, e217_1258, xKv, xK0, xKx, xKHv, xKH0, xk_none, xk_i, xk_f, xk_l, xk_r, xk_n, xc_i, xc_f, xc_l, xc_d, xc_r, xc_n, xo_some, List.map_cons, List.map_nil, List.sum_cons, List.sum_nil, xnzn, xpn0, xpn1, xpnb, xpnn, i10, i00, true_imp_iff, false_imp_iff, not_true_eq_false, not_false_eq_true, true_and, and_true, implies_true, xnz0, xnz1, xnzb, xfz0, xfz1, xfzb, Option.isSome_some, if_true, if_false, xbF, xbT, and_false, false_and, Nat.zero_le, Nat.reduceEqDiff, Nat.reduceLeDiff, Nat.reduceAdd, Nat.reduceSub, xiT, xiF, g3.1.is, en92, e92_0, e92_0n, e92_1, e92_4, th3, eq_self, tz]
    exact hx _ _ _ _ hG (by omega) (by omega)
theorem rd_step (hK : KI κ) (hS : KS κ) (g : GI κ ad m o d x A τ σ ah th j) (hj : j < 512) (hk : 60 ≤ k) (hn : 8000 ≤ n) (v1 : vp_in (nI i + 1) sL = True) (v2 : vp_in (nI i + 2) sL = True) (v3 : vp_in (nI i + 3) sL = True) (v4 : vp_in (nI i + 4) sL = True) (v5 : vp_in (nI i + 5) sL = True) (v6 : vp_in (nI i + 6) sL = True) (hX : LX κ ad sb sL sx R m o d x i j k n) : xW (TL κ sb sL sx) (xm κ) R (1261, [some (.ref sb), some (.ref x), some (.ref m), some (.ref o), some (.ref d), some (.int (nI i)), a6, a7], [], ah, k, n) := by
  obtain ⟨g2, hI, hN, hL, hJ⟩ := g
  have hv : t_fits (sx (nI i + 1).toNatClampNeg) (sx (nI i + 2).toNatClampNeg) = 0 → vf_n64 (FP.f2d (v_step (sx (nI i + 1).toNatClampNeg) (sx (nI i + 2).toNatClampNeg))) := fun h => f2dN (stepN h)
  simp (disch := omega) only [e217_1261, e217_1261n, e217_1262, e217_1262n, e217_1263, e217_1265, e217_1266, e217_1267, e217_1268, e217_1268n, e217_1269, e217_1271, e217_1272, e217_1273, e217_1274, e217_1274n, xKv, xK0, xKx, xKHv, xKH0, xk_none, xk_i, xk_f, xk_l, xk_r, xk_n, xc_i, xc_f, xc_l, xc_d, xc_r, xc_n, xo_some, List.map_cons, List.map_nil, List.sum_cons, List.sum_nil, xnzn, xpn0, xpn1, xpnb, xpnn, i10, i00, true_imp_iff, false_imp_iff, not_true_eq_false, not_false_eq_true, true_and, and_true, implies_true, xnz0, xnz1, xnzb, xfz0, xfz1, xfzb, Option.isSome_some, if_true, if_false, xbF, xbT, and_false, false_and, Nat.zero_le, Nat.reduceEqDiff, Nat.reduceLeDiff, Nat.reduceAdd, Nat.reduceSub, xiT, xiF, v1, v2, v3, v4, v5, v6, eq_self]
  rw [e217_1276]
  refine ⟨⟨by decide, trivial, by omega, by omega⟩, sp_L_step hK hS g2 hI hN hL (by omega) hv (fun A' τ' ah1 c1 l1 n1 o1 => ?_)⟩
  show xW _ _ _ _
  simp (disch := omega) only [e217_1279, e217_1281, e217_1281n, e217_1282, e217_1282n, e217_1283, e217_1285, e217_1286, e217_1287, e217_1288, e217_1288n, e217_1289, e217_1291, e217_1292, e217_1293, xKv, xK0, xKx, xKHv, xKH0, xk_none, xk_i, xk_f, xk_l, xk_r, xk_n, xc_i, xc_f, xc_l, xc_d, xc_r, xc_n, xo_some, List.map_cons, List.map_nil, List.sum_cons, List.sum_nil, xnzn, xpn0, xpn1, xpnb, xpnn, i10, i00, true_imp_iff, false_imp_iff, not_true_eq_false, not_false_eq_true, true_and, and_true, implies_true, xnz0, xnz1, xnzb, xfz0, xfz1, xfzb, Option.isSome_some, if_true, if_false, xbF, xbT, and_false, false_and, Nat.zero_le, Nat.reduceEqDiff, Nat.reduceLeDiff, Nat.reduceAdd, Nat.reduceSub, xiT, xiF, v1, v2, v3, v4, v5, v6, eq_self]
  rw [e217_1294]
  refine ⟨⟨by decide, c1.1.is⟩, sp_m_step c1.1 (fun ah2 r2 => ?_)⟩
  have g3 := c1.md r2
  have th3 : xfld ah2 m 11 26 = some (.int (nI (t_fits (sx (nI i + 1).toNatClampNeg) (sx (nI i + 2).toNatClampNeg)))) := g3.1.1
  have tb : t_fits (sx (nI i + 1).toNatClampNeg) (sx (nI i + 2).toNatClampNeg) ≤ 3 := by unfold t_fits; repeat' (first | decide | apply xi_le)
  have hx := hX A' τ' σ ah2 (t_fits (sx (nI i + 1).toNatClampNeg) (sx (nI i + 2).toNatClampNeg))
  have hG : GI κ ad m o d x A' τ' σ ah2 (t_fits (sx (nI i + 1).toNatClampNeg) (sx (nI i + 2).toNatClampNeg)) (j + 1) := ⟨g3, hI, hN, l1, by omega⟩
  show xW _ _ _ _
  by_cases ht : t_fits (sx (nI i + 1).toNatClampNeg) (sx (nI i + 2).toNatClampNeg) = 0
  · obtain ⟨f, hf, hf0⟩ := o1 ht
    rw [← tcN0] at hf0
    have hf2 : ah2 d = some (.inl (4, 1, .inr (.inr (.inr (.inl f))))) := (r2.2.2.2.2 d c1.2.2.2.2.2.2.1 (fun c hc q => (c1.2.2.2.2.2.2.2.2 c hc).2 q.symm)).trans hf
    have fo : xad ah2 d = some (1, f) := xad_of hf2
    have hv0 := eq_true (hv ht)
    have hdc := dself (hv ht)
    have tz : nI (t_fits (sx (nI i + 1).toNatClampNeg) (sx (nI i + 2).toNatClampNeg)) = 0 := by rw [ht]; rfl
    simp (disch := omega) only [e217_1297, e217_1299, e217_1299n, e217_1300, e217_1303, e217_1305, e217_1308, e217_1309, e217_1310, e217_1312, e217_1315, e217_1315n, e217_1317, e217_1318, e217_1319, e217_1321, e217_1322, e217_1323, e217_1326, e217_1326n, e217_1328, e217_1329, e217_1330, e217_1330n, e217_1332, e217_1333, e217_1334, e217_1335, e217_1338, e217_1340, e217_1342, e217_1343, e217_1346, e217_1347, e217_1348, xKv, xK0, xKx, xKHv, xKH0, xk_none, xk_i, xk_f, xk_l, xk_r, xk_n, xc_i, xc_f, xc_l, xc_d, xc_r, xc_n, xo_some, List.map_cons, List.map_nil, List.sum_cons, List.sum_nil, xnzn, xpn0, xpn1, xpnb, xpnn, i10, i00, true_imp_iff, false_imp_iff, not_true_eq_false, not_false_eq_true, true_and, and_true, implies_true, xnz0, xnz1, xnzb, xfz0, xfz1, xfzb, Option.isSome_some, if_true, if_false, xbF, xbT, and_false, false_and, Nat.zero_le, Nat.reduceEqDiff, Nat.reduceLeDiff, Nat.reduceAdd, Nat.reduceSub, xiT, xiF, g3.1.is, en92, e92_0, e92_0n, e92_1, e92_4, th3, eq_self, tz, fo, vp01, hf0, hv0, hdc]
    exact hx _ _ _ _ hG (by omega) (by omega)
  · have tz : (nI (t_fits (sx (nI i + 1).toNatClampNeg) (sx (nI i + 2).toNatClampNeg)) = 0) = False := by rw [nI_z tb]; exact eq_false ht
    simp (disch := omega) only [e217_1297, e217_1299, e217_1299n, e217_1300, e217_1303, e217_1305, e217_1308, e217_1309, e217_1310, e217_1312, e217_1315, e217_1315n, e217_1317, e217_1318, e217_1319, e217_1321, e217_1322, e217_1323, e217_1326, e217_1326n, e217_1328, e217_1329, e217_1330, e217_1330n, e217_1332, e217_1333, e217_1334, e217_1335, e217_1338, e217_1340, e217_1342, e217_1343, e217_1346, e217_1347, e217_1348, xKv, xK0, xKx, xKHv, xKH0, xk_none, xk_i, xk_f, xk_l, xk_r, xk_n, xc_i, xc_f, xc_l, xc_d, xc_r, xc_n, xo_some, List.map_cons, List.map_nil, List.sum_cons, List.sum_nil, xnzn, xpn0, xpn1, xpnb, xpnn, i10, i00, true_imp_iff, false_imp_iff, not_true_eq_false, not_false_eq_true, true_and, and_true, implies_true, xnz0, xnz1, xnzb, xfz0, xfz1, xfzb, Option.isSome_some, if_true, if_false, xbF, xbT, and_false, false_and, Nat.zero_le, Nat.reduceEqDiff, Nat.reduceLeDiff, Nat.reduceAdd, Nat.reduceSub, xiT, xiF, g3.1.is, en92, e92_0, e92_0n, e92_1, e92_4, th3, eq_self, tz]
    exact hx _ _ _ _ hG (by omega) (by omega)
theorem rd_cut (hK : KI κ) (hS : KS κ) (g : GI κ ad m o d x A τ σ ah th j) (hj : j < 512) (hk : 60 ≤ k) (hn : 8000 ≤ n) (v1 : vp_in (nI i + 1) sL = True) (v2 : vp_in (nI i + 2) sL = True) (v3 : vp_in (nI i + 3) sL = True) (v4 : vp_in (nI i + 4) sL = True) (v5 : vp_in (nI i + 5) sL = True) (v6 : vp_in (nI i + 6) sL = True) (hX : LX κ ad sb sL sx R m o d x i j k n) : xW (TL κ sb sL sx) (xm κ) R (1351, [some (.ref sb), some (.ref x), some (.ref m), some (.ref o), some (.ref d), some (.int (nI i)), a6, a7], [], ah, k, n) := by
  obtain ⟨g2, hI, hN, hL, hJ⟩ := g
  simp (disch := omega) only [e217_1351, e217_1351n, e217_1352, e217_1352n, e217_1353, e217_1355, e217_1356, e217_1357, e217_1358, e217_1358n, e217_1359, e217_1361, e217_1362, e217_1363, e217_1364, e217_1364n, e217_1365, e217_1367, e217_1368, e217_1369, e217_1370, e217_1370n, xKv, xK0, xKx, xKHv, xKH0, xk_none, xk_i, xk_f, xk_l, xk_r, xk_n, xc_i, xc_f, xc_l, xc_d, xc_r, xc_n, xo_some, List.map_cons, List.map_nil, List.sum_cons, List.sum_nil, xnzn, xpn0, xpn1, xpnb, xpnn, i10, i00, true_imp_iff, false_imp_iff, not_true_eq_false, not_false_eq_true, true_and, and_true, implies_true, xnz0, xnz1, xnzb, xfz0, xfz1, xfzb, Option.isSome_some, if_true, if_false, xbF, xbT, and_false, false_and, Nat.zero_le, Nat.reduceEqDiff, Nat.reduceLeDiff, Nat.reduceAdd, Nat.reduceSub, xiT, xiF, v1, v2, v3, v4, v5, v6, eq_self]
  rw [e217_1371]
  refine ⟨⟨by decide, trivial, by omega, by omega⟩, sp_L_cut hK hS g2 hI hN hL (by omega) (fun A' τ' ah1 c1 l1 n1 o1 => ?_)⟩
  show xW _ _ _ _
  simp (disch := omega) only [e217_1374, e217_1376, e217_1376n, e217_1377, e217_1377n, e217_1378, e217_1380, e217_1381, e217_1382, e217_1383, e217_1383n, e217_1384, e217_1386, e217_1387, e217_1388, e217_1389, e217_1389n, e217_1390, e217_1392, e217_1393, e217_1394, xKv, xK0, xKx, xKHv, xKH0, xk_none, xk_i, xk_f, xk_l, xk_r, xk_n, xc_i, xc_f, xc_l, xc_d, xc_r, xc_n, xo_some, List.map_cons, List.map_nil, List.sum_cons, List.sum_nil, xnzn, xpn0, xpn1, xpnb, xpnn, i10, i00, true_imp_iff, false_imp_iff, not_true_eq_false, not_false_eq_true, true_and, and_true, implies_true, xnz0, xnz1, xnzb, xfz0, xfz1, xfzb, Option.isSome_some, if_true, if_false, xbF, xbT, and_false, false_and, Nat.zero_le, Nat.reduceEqDiff, Nat.reduceLeDiff, Nat.reduceAdd, Nat.reduceSub, xiT, xiF, v1, v2, v3, v4, v5, v6, eq_self]
  rw [e217_1395]
  refine ⟨⟨by decide, c1.1.is⟩, sp_m_cut c1.1 (fun ah2 r2 => ?_)⟩
  have g3 := c1.md r2
  have th3 : xfld ah2 m 11 26 = some (.int (nI (t_cut (sx (nI i + 1).toNatClampNeg) (sx (nI i + 2).toNatClampNeg) (sx (nI i + 3).toNatClampNeg)))) := g3.1.1
  have tb : t_cut (sx (nI i + 1).toNatClampNeg) (sx (nI i + 2).toNatClampNeg) (sx (nI i + 3).toNatClampNeg) ≤ 3 := by unfold t_cut; repeat' (first | decide | apply xi_le)
  have hx := hX A' τ' σ ah2 (t_cut (sx (nI i + 1).toNatClampNeg) (sx (nI i + 2).toNatClampNeg) (sx (nI i + 3).toNatClampNeg))
  have hG : GI κ ad m o d x A' τ' σ ah2 (t_cut (sx (nI i + 1).toNatClampNeg) (sx (nI i + 2).toNatClampNeg) (sx (nI i + 3).toNatClampNeg)) (j + 1) := ⟨g3, hI, hN, l1, by omega⟩
  show xW _ _ _ _
  by_cases ht : t_cut (sx (nI i + 1).toNatClampNeg) (sx (nI i + 2).toNatClampNeg) (sx (nI i + 3).toNatClampNeg) = 0
  · obtain ⟨f, hf, hf0⟩ := o1 ht
    rw [← tcN0] at hf0
    have hf2 : ah2 o = some (.inl (3, 1, .inr (.inl f))) := (r2.2.2.2.2 o c1.2.2.2.2.2.1 (fun c hc q => (c1.2.2.2.2.2.2.2.2 c hc).1 q.symm)).trans hf
    have fo : xal ah2 o = some (1, f) := xal_of hf2
    have tz : nI (t_cut (sx (nI i + 1).toNatClampNeg) (sx (nI i + 2).toNatClampNeg) (sx (nI i + 3).toNatClampNeg)) = 0 := by rw [ht]; rfl
    simp (disch := omega) only [e217_1398, e217_1400, e217_1400n, e217_1401, e217_1404, e217_1406, e217_1409, e217_1410, e217_1411, e217_1413, e217_1416, e217_1416n, e217_1417, e217_1418, e217_1419, e217_1421, e217_1422, e217_1423, e217_1426, e217_1427, e217_1428, xKv, xK0, xKx, xKHv, xKH0, xk_none, xk_i, xk_f, xk_l, xk_r, xk_n, xc_i, xc_f, xc_l, xc_d, xc_r, xc_n, xo_some, List.map_cons, List.map_nil, List.sum_cons, List.sum_nil, xnzn, xpn0, xpn1, xpnb, xpnn, i10, i00, true_imp_iff, false_imp_iff, not_true_eq_false, not_false_eq_true, true_and, and_true, implies_true, xnz0, xnz1, xnzb, xfz0, xfz1, xfzb, Option.isSome_some, if_true, if_false, xbF, xbT, and_false, false_and, Nat.zero_le, Nat.reduceEqDiff, Nat.reduceLeDiff, Nat.reduceAdd, Nat.reduceSub, xiT, xiF, g3.1.is, en92, e92_0, e92_0n, e92_1, e92_4, th3, eq_self, tz, fo, vp01, hf0, lg_cmp_eq]
    exact hx _ _ _ _ hG (by omega) (by omega)
  · have tz : (nI (t_cut (sx (nI i + 1).toNatClampNeg) (sx (nI i + 2).toNatClampNeg) (sx (nI i + 3).toNatClampNeg)) = 0) = False := by rw [nI_z tb]; exact eq_false ht
    simp (disch := omega) only [e217_1398, e217_1400, e217_1400n, e217_1401, e217_1404, e217_1406, e217_1409, e217_1410, e217_1411, e217_1413, e217_1416, e217_1416n, e217_1417, e217_1418, e217_1419, e217_1421, e217_1422, e217_1423, e217_1426, e217_1427, e217_1428, xKv, xK0, xKx, xKHv, xKH0, xk_none, xk_i, xk_f, xk_l, xk_r, xk_n, xc_i, xc_f, xc_l, xc_d, xc_r, xc_n, xo_some, List.map_cons, List.map_nil, List.sum_cons, List.sum_nil, xnzn, xpn0, xpn1, xpnb, xpnn, i10, i00, true_imp_iff, false_imp_iff, not_true_eq_false, not_false_eq_true, true_and, and_true, implies_true, xnz0, xnz1, xnzb, xfz0, xfz1, xfzb, Option.isSome_some, if_true, if_false, xbF, xbT, and_false, false_and, Nat.zero_le, Nat.reduceEqDiff, Nat.reduceLeDiff, Nat.reduceAdd, Nat.reduceSub, xiT, xiF, g3.1.is, en92, e92_0, e92_0n, e92_1, e92_4, th3, eq_self, tz]
    exact hx _ _ _ _ hG (by omega) (by omega)
theorem rd_window (hK : KI κ) (hS : KS κ) (g : GI κ ad m o d x A τ σ ah th j) (hj : j < 512) (hk : 60 ≤ k) (hn : 8000 ≤ n) (v1 : vp_in (nI i + 1) sL = True) (v2 : vp_in (nI i + 2) sL = True) (v3 : vp_in (nI i + 3) sL = True) (v4 : vp_in (nI i + 4) sL = True) (v5 : vp_in (nI i + 5) sL = True) (v6 : vp_in (nI i + 6) sL = True) (hX : LX κ ad sb sL sx R m o d x i j k n) : xW (TL κ sb sL sx) (xm κ) R (1431, [some (.ref sb), some (.ref x), some (.ref m), some (.ref o), some (.ref d), some (.int (nI i)), a6, a7], [], ah, k, n) := by
  obtain ⟨g2, hI, hN, hL, hJ⟩ := g
  simp (disch := omega) only [e217_1431, e217_1431n, e217_1432, e217_1432n, e217_1433, e217_1435, e217_1436, e217_1437, e217_1438, e217_1438n, e217_1439, e217_1441, e217_1442, e217_1443, e217_1444, e217_1444n, xKv, xK0, xKx, xKHv, xKH0, xk_none, xk_i, xk_f, xk_l, xk_r, xk_n, xc_i, xc_f, xc_l, xc_d, xc_r, xc_n, xo_some, List.map_cons, List.map_nil, List.sum_cons, List.sum_nil, xnzn, xpn0, xpn1, xpnb, xpnn, i10, i00, true_imp_iff, false_imp_iff, not_true_eq_false, not_false_eq_true, true_and, and_true, implies_true, xnz0, xnz1, xnzb, xfz0, xfz1, xfzb, Option.isSome_some, if_true, if_false, xbF, xbT, and_false, false_and, Nat.zero_le, Nat.reduceEqDiff, Nat.reduceLeDiff, Nat.reduceAdd, Nat.reduceSub, xiT, xiF, v1, v2, v3, v4, v5, v6, eq_self]
  rw [e217_1445]
  refine ⟨⟨by decide, trivial, by omega, by omega⟩, sp_L_window hK hS g2 hI hN hL (by omega) (fun A' τ' ah1 c1 l1 n1 o1 => ?_)⟩
  show xW _ _ _ _
  simp (disch := omega) only [e217_1448, e217_1450, e217_1450n, e217_1451, e217_1451n, e217_1452, e217_1454, e217_1455, e217_1456, e217_1457, e217_1457n, e217_1458, e217_1460, e217_1461, e217_1462, xKv, xK0, xKx, xKHv, xKH0, xk_none, xk_i, xk_f, xk_l, xk_r, xk_n, xc_i, xc_f, xc_l, xc_d, xc_r, xc_n, xo_some, List.map_cons, List.map_nil, List.sum_cons, List.sum_nil, xnzn, xpn0, xpn1, xpnb, xpnn, i10, i00, true_imp_iff, false_imp_iff, not_true_eq_false, not_false_eq_true, true_and, and_true, implies_true, xnz0, xnz1, xnzb, xfz0, xfz1, xfzb, Option.isSome_some, if_true, if_false, xbF, xbT, and_false, false_and, Nat.zero_le, Nat.reduceEqDiff, Nat.reduceLeDiff, Nat.reduceAdd, Nat.reduceSub, xiT, xiF, v1, v2, v3, v4, v5, v6, eq_self]
  rw [e217_1463]
  refine ⟨⟨by decide, c1.1.is⟩, sp_m_window c1.1 (fun ah2 r2 => ?_)⟩
  have g3 := c1.md r2
  have th3 : xfld ah2 m 11 26 = some (.int (nI (t_window (sx (nI i + 1).toNatClampNeg) (sx (nI i + 2).toNatClampNeg)))) := g3.1.1
  have tb : t_window (sx (nI i + 1).toNatClampNeg) (sx (nI i + 2).toNatClampNeg) ≤ 3 := by unfold t_window; repeat' (first | decide | apply xi_le)
  have hx := hX A' τ' (s_window σ (sx (nI i + 1).toNatClampNeg) (sx (nI i + 2).toNatClampNeg)) ah2 (t_window (sx (nI i + 1).toNatClampNeg) (sx (nI i + 2).toNatClampNeg))
  have hG : GI κ ad m o d x A' τ' (s_window σ (sx (nI i + 1).toNatClampNeg) (sx (nI i + 2).toNatClampNeg)) ah2 (t_window (sx (nI i + 1).toNatClampNeg) (sx (nI i + 2).toNatClampNeg)) (j + 1) := ⟨g3, MI_window hI, NJ_window hN, l1, by omega⟩
  show xW _ _ _ _
  by_cases ht : t_window (sx (nI i + 1).toNatClampNeg) (sx (nI i + 2).toNatClampNeg) = 0
  · obtain ⟨f, hf, hf0⟩ := o1 ht
    rw [← tcN0] at hf0
    have hf2 : ah2 o = some (.inl (3, 1, .inr (.inl f))) := (r2.2.2.2.2 o c1.2.2.2.2.2.1 (fun c hc q => (c1.2.2.2.2.2.2.2.2 c hc).1 q.symm)).trans hf
    have fo : xal ah2 o = some (1, f) := xal_of hf2
    have tz : nI (t_window (sx (nI i + 1).toNatClampNeg) (sx (nI i + 2).toNatClampNeg)) = 0 := by rw [ht]; rfl
    simp (disch := omega) only [e217_1466, e217_1468, e217_1468n, e217_1469, e217_1472, e217_1474, e217_1477, e217_1478, e217_1479, e217_1481, e217_1484, e217_1484n, e217_1485, e217_1486, e217_1487, e217_1489, e217_1490, e217_1491, e217_1494, e217_1495, e217_1496, xKv, xK0, xKx, xKHv, xKH0, xk_none, xk_i, xk_f, xk_l, xk_r, xk_n, xc_i, xc_f, xc_l, xc_d, xc_r, xc_n, xo_some, List.map_cons, List.map_nil, List.sum_cons, List.sum_nil, xnzn, xpn0, xpn1, xpnb, xpnn, i10, i00, true_imp_iff, false_imp_iff, not_true_eq_false, not_false_eq_true, true_and, and_true, implies_true, xnz0, xnz1, xnzb, xfz0, xfz1, xfzb, Option.isSome_some, if_true, if_false, xbF, xbT, and_false, false_and, Nat.zero_le, Nat.reduceEqDiff, Nat.reduceLeDiff, Nat.reduceAdd, Nat.reduceSub, xiT, xiF, g3.1.is, en92, e92_0, e92_0n, e92_1, e92_4, th3, eq_self, tz, fo, vp01, hf0, lg_cmp_eq]
    exact hx _ _ _ _ hG (by omega) (by omega)
  · have tz : (nI (t_window (sx (nI i + 1).toNatClampNeg) (sx (nI i + 2).toNatClampNeg)) = 0) = False := by rw [nI_z tb]; exact eq_false ht
    simp (disch := omega) only [e217_1466, e217_1468, e217_1468n, e217_1469, e217_1472, e217_1474, e217_1477, e217_1478, e217_1479, e217_1481, e217_1484, e217_1484n, e217_1485, e217_1486, e217_1487, e217_1489, e217_1490, e217_1491, e217_1494, e217_1495, e217_1496, xKv, xK0, xKx, xKHv, xKH0, xk_none, xk_i, xk_f, xk_l, xk_r, xk_n, xc_i, xc_f, xc_l, xc_d, xc_r, xc_n, xo_some, List.map_cons, List.map_nil, List.sum_cons, List.sum_nil, xnzn, xpn0, xpn1, xpnb, xpnn, i10, i00, true_imp_iff, false_imp_iff, not_true_eq_false, not_false_eq_true, true_and, and_true, implies_true, xnz0, xnz1, xnzb, xfz0, xfz1, xfzb, Option.isSome_some, if_true, if_false, xbF, xbT, and_false, false_and, Nat.zero_le, Nat.reduceEqDiff, Nat.reduceLeDiff, Nat.reduceAdd, Nat.reduceSub, xiT, xiF, g3.1.is, en92, e92_0, e92_0n, e92_1, e92_4, th3, eq_self, tz]
    exact hx _ _ _ _ hG (by omega) (by omega)
theorem rd_patch (hK : KI κ) (hS : KS κ) (g : GI κ ad m o d x A τ σ ah th j) (hj : j < 512) (hk : 60 ≤ k) (hn : 8000 ≤ n) (v1 : vp_in (nI i + 1) sL = True) (v2 : vp_in (nI i + 2) sL = True) (v3 : vp_in (nI i + 3) sL = True) (v4 : vp_in (nI i + 4) sL = True) (v5 : vp_in (nI i + 5) sL = True) (v6 : vp_in (nI i + 6) sL = True) (hX : LX κ ad sb sL sx R m o d x i j k n) : xW (TL κ sb sL sx) (xm κ) R (1499, [some (.ref sb), some (.ref x), some (.ref m), some (.ref o), some (.ref d), some (.int (nI i)), a6, a7], [], ah, k, n) := by
  obtain ⟨g2, hI, hN, hL, hJ⟩ := g
  simp (disch := omega) only [e217_1499, e217_1499n, e217_1500, e217_1500n, e217_1501, e217_1503, e217_1504, e217_1505, e217_1506, e217_1507, e217_1509, e217_1510, e217_1510n, e217_1511, e217_1513, e217_1514, e217_1515, e217_1516, e217_1517, e217_1520, e217_1521, e217_1522, e217_1522n, xKv, xK0, xKx, xKHv, xKH0, xk_none, xk_i, xk_f, xk_l, xk_r, xk_n, xc_i, xc_f, xc_l, xc_d, xc_r, xc_n, xo_some, List.map_cons, List.map_nil, List.sum_cons, List.sum_nil, xnzn, xpn0, xpn1, xpnb, xpnn, i10, i00, true_imp_iff, false_imp_iff, not_true_eq_false, not_false_eq_true, true_and, and_true, implies_true, xnz0, xnz1, xnzb, xfz0, xfz1, xfzb, Option.isSome_some, if_true, if_false, xbF, xbT, and_false, false_and, Nat.zero_le, Nat.reduceEqDiff, Nat.reduceLeDiff, Nat.reduceAdd, Nat.reduceSub, xiT, xiF, v1, v2, v3, v4, v5, v6, eq_self]
  rw [e217_1523]
  refine ⟨⟨by decide, trivial, by omega, by omega⟩, sp_L_patch hK hS g2 hI hN hL (by omega) (fun A' τ' ah1 c1 l1 n1 o1 => ?_)⟩
  show xW _ _ _ _
  simp (disch := omega) only [e217_1526, e217_1528, e217_1528n, e217_1529, e217_1529n, e217_1530, e217_1532, e217_1533, e217_1534, e217_1535, e217_1536, e217_1538, e217_1539, e217_1539n, e217_1540, e217_1542, e217_1543, e217_1544, e217_1545, e217_1546, e217_1549, e217_1550, xKv, xK0, xKx, xKHv, xKH0, xk_none, xk_i, xk_f, xk_l, xk_r, xk_n, xc_i, xc_f, xc_l, xc_d, xc_r, xc_n, xo_some, List.map_cons, List.map_nil, List.sum_cons, List.sum_nil, xnzn, xpn0, xpn1, xpnb, xpnn, i10, i00, true_imp_iff, false_imp_iff, not_true_eq_false, not_false_eq_true, true_and, and_true, implies_true, xnz0, xnz1, xnzb, xfz0, xfz1, xfzb, Option.isSome_some, if_true, if_false, xbF, xbT, and_false, false_and, Nat.zero_le, Nat.reduceEqDiff, Nat.reduceLeDiff, Nat.reduceAdd, Nat.reduceSub, xiT, xiF, v1, v2, v3, v4, v5, v6, eq_self]
  rw [e217_1551]
  refine ⟨⟨by decide, c1.1.is⟩, sp_m_patch c1.1 hI (fun ah2 r2 => ?_)⟩
  have g3 := c1.md r2
  have th3 : xfld ah2 m 11 26 = some (.int (nI (t_patch σ ((sx (nI i + 1).toNatClampNeg).toInt64 <<< ((32 : Int32).toInt64 &&& 63) ||| (sx (nI i + 2).toNatClampNeg).toInt64 &&& 4294967295)))) := g3.1.1
  have tb : t_patch σ ((sx (nI i + 1).toNatClampNeg).toInt64 <<< ((32 : Int32).toInt64 &&& 63) ||| (sx (nI i + 2).toNatClampNeg).toInt64 &&& 4294967295) ≤ 3 := by unfold t_patch; repeat' (first | decide | apply xi_le)
  have hx := hX A' τ' (s_patch σ ((sx (nI i + 1).toNatClampNeg).toInt64 <<< ((32 : Int32).toInt64 &&& 63) ||| (sx (nI i + 2).toNatClampNeg).toInt64 &&& 4294967295)) ah2 (t_patch σ ((sx (nI i + 1).toNatClampNeg).toInt64 <<< ((32 : Int32).toInt64 &&& 63) ||| (sx (nI i + 2).toNatClampNeg).toInt64 &&& 4294967295))
  have hG : GI κ ad m o d x A' τ' (s_patch σ ((sx (nI i + 1).toNatClampNeg).toInt64 <<< ((32 : Int32).toInt64 &&& 63) ||| (sx (nI i + 2).toNatClampNeg).toInt64 &&& 4294967295)) ah2 (t_patch σ ((sx (nI i + 1).toNatClampNeg).toInt64 <<< ((32 : Int32).toInt64 &&& 63) ||| (sx (nI i + 2).toNatClampNeg).toInt64 &&& 4294967295)) (j + 1) := ⟨g3, MI_patch hI, NJ_patch hN, l1, by omega⟩
  show xW _ _ _ _
  by_cases ht : t_patch σ ((sx (nI i + 1).toNatClampNeg).toInt64 <<< ((32 : Int32).toInt64 &&& 63) ||| (sx (nI i + 2).toNatClampNeg).toInt64 &&& 4294967295) = 0
  · obtain ⟨f, hf, hf0⟩ := o1 ht
    rw [← tcN0] at hf0
    have hf2 : ah2 o = some (.inl (3, 1, .inr (.inl f))) := (r2.2.2.2.2 o c1.2.2.2.2.2.1 (fun c hc q => (c1.2.2.2.2.2.2.2.2 c hc).1 q.symm)).trans hf
    have fo : xal ah2 o = some (1, f) := xal_of hf2
    have tz : nI (t_patch σ ((sx (nI i + 1).toNatClampNeg).toInt64 <<< ((32 : Int32).toInt64 &&& 63) ||| (sx (nI i + 2).toNatClampNeg).toInt64 &&& 4294967295)) = 0 := by rw [ht]; rfl
    simp (disch := omega) only [e217_1554, e217_1556, e217_1556n, e217_1557, e217_1560, e217_1562, e217_1565, e217_1566, e217_1567, e217_1569, e217_1572, e217_1572n, e217_1573, e217_1574, e217_1575, e217_1577, e217_1578, e217_1579, e217_1582, e217_1583, e217_1584, xKv, xK0, xKx, xKHv, xKH0, xk_none, xk_i, xk_f, xk_l, xk_r, xk_n, xc_i, xc_f, xc_l, xc_d, xc_r, xc_n, xo_some, List.map_cons, List.map_nil, List.sum_cons, List.sum_nil, xnzn, xpn0, xpn1, xpnb, xpnn, i10, i00, true_imp_iff, false_imp_iff, not_true_eq_false, not_false_eq_true, true_and, and_true, implies_true, xnz0, xnz1, xnzb, xfz0, xfz1, xfzb, Option.isSome_some, if_true, if_false, xbF, xbT, and_false, false_and, Nat.zero_le, Nat.reduceEqDiff, Nat.reduceLeDiff, Nat.reduceAdd, Nat.reduceSub, xiT, xiF, g3.1.is, en92, e92_0, e92_0n, e92_1, e92_4, th3, eq_self, tz, fo, vp01, hf0, lg_cmp_eq]
    exact hx _ _ _ _ hG (by omega) (by omega)
  · have tz : (nI (t_patch σ ((sx (nI i + 1).toNatClampNeg).toInt64 <<< ((32 : Int32).toInt64 &&& 63) ||| (sx (nI i + 2).toNatClampNeg).toInt64 &&& 4294967295)) = 0) = False := by rw [nI_z tb]; exact eq_false ht
    simp (disch := omega) only [e217_1554, e217_1556, e217_1556n, e217_1557, e217_1560, e217_1562, e217_1565, e217_1566, e217_1567, e217_1569, e217_1572, e217_1572n, e217_1573, e217_1574, e217_1575, e217_1577, e217_1578, e217_1579, e217_1582, e217_1583, e217_1584, xKv, xK0, xKx, xKHv, xKH0, xk_none, xk_i, xk_f, xk_l, xk_r, xk_n, xc_i, xc_f, xc_l, xc_d, xc_r, xc_n, xo_some, List.map_cons, List.map_nil, List.sum_cons, List.sum_nil, xnzn, xpn0, xpn1, xpnb, xpnn, i10, i00, true_imp_iff, false_imp_iff, not_true_eq_false, not_false_eq_true, true_and, and_true, implies_true, xnz0, xnz1, xnzb, xfz0, xfz1, xfzb, Option.isSome_some, if_true, if_false, xbF, xbT, and_false, false_and, Nat.zero_le, Nat.reduceEqDiff, Nat.reduceLeDiff, Nat.reduceAdd, Nat.reduceSub, xiT, xiF, g3.1.is, en92, e92_0, e92_0n, e92_1, e92_4, th3, eq_self, tz]
    exact hx _ _ _ _ hG (by omega) (by omega)
theorem rd_paint (hK : KI κ) (hS : KS κ) (g : GI κ ad m o d x A τ σ ah th j) (hj : j < 512) (hk : 60 ≤ k) (hn : 8000 ≤ n) (v1 : vp_in (nI i + 1) sL = True) (v2 : vp_in (nI i + 2) sL = True) (v3 : vp_in (nI i + 3) sL = True) (v4 : vp_in (nI i + 4) sL = True) (v5 : vp_in (nI i + 5) sL = True) (v6 : vp_in (nI i + 6) sL = True) (hX : LX κ ad sb sL sx R m o d x i j k n) : xW (TL κ sb sL sx) (xm κ) R (1587, [some (.ref sb), some (.ref x), some (.ref m), some (.ref o), some (.ref d), some (.int (nI i)), a6, a7], [], ah, k, n) := by
  obtain ⟨g2, hI, hN, hL, hJ⟩ := g
  by_cases hz : (sx (nI i + 5).toNatClampNeg) = 0
  · skip
    simp (disch := omega) only [e217_1587, e217_1587n, e217_1588, e217_1588n, e217_1589, e217_1591, e217_1592, e217_1593, e217_1594, e217_1594n, e217_1595, e217_1597, e217_1598, e217_1599, e217_1600, e217_1600n, e217_1601, e217_1603, e217_1604, e217_1605, e217_1606, e217_1607, e217_1609, e217_1610, e217_1610n, e217_1611, e217_1613, e217_1614, e217_1615, e217_1616, e217_1617, e217_1620, e217_1621, e217_1622, e217_1622n, e217_1623, e217_1625, e217_1626, e217_1627, e217_1628, e217_1631, e217_1632, e217_1635, e217_1636, e217_1636n, xKv, xK0, xKx, xKHv, xKH0, xk_none, xk_i, xk_f, xk_l, xk_r, xk_n, xc_i, xc_f, xc_l, xc_d, xc_r, xc_n, xo_some, List.map_cons, List.map_nil, List.sum_cons, List.sum_nil, xnzn, xpn0, xpn1, xpnb, xpnn, i10, i00, true_imp_iff, false_imp_iff, not_true_eq_false, not_false_eq_true, true_and, and_true, implies_true, xnz0, xnz1, xnzb, xfz0, xfz1, xfzb, Option.isSome_some, if_true, if_false, xbF, xbT, and_false, false_and, Nat.zero_le, Nat.reduceEqDiff, Nat.reduceLeDiff, Nat.reduceAdd, Nat.reduceSub, xiT, xiF, v1, v2, v3, v4, v5, v6, eq_self, hz]
    rw [e217_1637]
    rw [show Value.int 0 = .int (xb False) by rw [xbF]]
    refine ⟨⟨by decide, trivial, by omega, by omega⟩, sp_L_paint hK hS g2 hI hN hL (by omega) (fun A' τ' ah1 c1 l1 n1 o1 => ?_)⟩
    show xW _ _ _ _
    simp (disch := omega) only [e217_1640, e217_1642, e217_1642n, e217_1643, e217_1643n, e217_1644, e217_1646, e217_1647, e217_1648, e217_1649, e217_1649n, e217_1650, e217_1652, e217_1653, e217_1654, e217_1655, e217_1655n, e217_1656, e217_1658, e217_1659, e217_1660, e217_1661, e217_1662, e217_1664, e217_1665, e217_1665n, e217_1666, e217_1668, e217_1669, e217_1670, e217_1671, e217_1672, e217_1675, e217_1676, e217_1677, e217_1677n, e217_1678, e217_1680, e217_1681, e217_1682, e217_1683, e217_1686, e217_1687, e217_1690, xKv, xK0, xKx, xKHv, xKH0, xk_none, xk_i, xk_f, xk_l, xk_r, xk_n, xc_i, xc_f, xc_l, xc_d, xc_r, xc_n, xo_some, List.map_cons, List.map_nil, List.sum_cons, List.sum_nil, xnzn, xpn0, xpn1, xpnb, xpnn, i10, i00, true_imp_iff, false_imp_iff, not_true_eq_false, not_false_eq_true, true_and, and_true, implies_true, xnz0, xnz1, xnzb, xfz0, xfz1, xfzb, Option.isSome_some, if_true, if_false, xbF, xbT, and_false, false_and, Nat.zero_le, Nat.reduceEqDiff, Nat.reduceLeDiff, Nat.reduceAdd, Nat.reduceSub, xiT, xiF, v1, v2, v3, v4, v5, v6, eq_self, hz]
    rw [e217_1691]
    rw [show Value.int 0 = .int (xb False) by rw [xbF]]
    refine ⟨⟨by decide, c1.1.is⟩, sp_m_paint c1.1 hI hN.2.1 (fun ah2 r2 => ?_)⟩
    have g3 := c1.md r2
    have th3 : xfld ah2 m 11 26 = some (.int (nI (t_paint σ (sx (nI i + 1).toNatClampNeg) (sx (nI i + 2).toNatClampNeg) False))) := g3.1.1
    have tb : t_paint σ (sx (nI i + 1).toNatClampNeg) (sx (nI i + 2).toNatClampNeg) False ≤ 3 := by unfold t_paint; repeat' (first | decide | apply xi_le)
    have hx := hX A' τ' (s_paint σ (sx (nI i + 1).toNatClampNeg) (sx (nI i + 2).toNatClampNeg) ((sx (nI i + 3).toNatClampNeg).toInt64 <<< ((32 : Int32).toInt64 &&& 63) ||| (sx (nI i + 4).toNatClampNeg).toInt64 &&& 4294967295) False) ah2 (t_paint σ (sx (nI i + 1).toNatClampNeg) (sx (nI i + 2).toNatClampNeg) False)
    have hG : GI κ ad m o d x A' τ' (s_paint σ (sx (nI i + 1).toNatClampNeg) (sx (nI i + 2).toNatClampNeg) ((sx (nI i + 3).toNatClampNeg).toInt64 <<< ((32 : Int32).toInt64 &&& 63) ||| (sx (nI i + 4).toNatClampNeg).toInt64 &&& 4294967295) False) ah2 (t_paint σ (sx (nI i + 1).toNatClampNeg) (sx (nI i + 2).toNatClampNeg) False) (j + 1) := ⟨g3, MI_paint hI, NJ_paint hN, l1, by omega⟩
    show xW _ _ _ _
    by_cases ht : t_paint σ (sx (nI i + 1).toNatClampNeg) (sx (nI i + 2).toNatClampNeg) False = 0
    · obtain ⟨f, hf, hf0⟩ := o1 ht
      rw [← tcN0] at hf0
      have hf2 : ah2 o = some (.inl (3, 1, .inr (.inl f))) := (r2.2.2.2.2 o c1.2.2.2.2.2.1 (fun c hc q => (c1.2.2.2.2.2.2.2.2 c hc).1 q.symm)).trans hf
      have fo : xal ah2 o = some (1, f) := xal_of hf2
      have tz : nI (t_paint σ (sx (nI i + 1).toNatClampNeg) (sx (nI i + 2).toNatClampNeg) False) = 0 := by rw [ht]; rfl
      simp (disch := omega) only [e217_1694, e217_1696, e217_1696n, e217_1697, e217_1700, e217_1702, e217_1705, e217_1706, e217_1707, e217_1709, e217_1712, e217_1712n, e217_1713, e217_1714, e217_1715, e217_1717, e217_1718, e217_1719, e217_1722, e217_1723, e217_1724, xKv, xK0, xKx, xKHv, xKH0, xk_none, xk_i, xk_f, xk_l, xk_r, xk_n, xc_i, xc_f, xc_l, xc_d, xc_r, xc_n, xo_some, List.map_cons, List.map_nil, List.sum_cons, List.sum_nil, xnzn, xpn0, xpn1, xpnb, xpnn, i10, i00, true_imp_iff, false_imp_iff, not_true_eq_false, not_false_eq_true, true_and, and_true, implies_true, xnz0, xnz1, xnzb, xfz0, xfz1, xfzb, Option.isSome_some, if_true, if_false, xbF, xbT, and_false, false_and, Nat.zero_le, Nat.reduceEqDiff, Nat.reduceLeDiff, Nat.reduceAdd, Nat.reduceSub, xiT, xiF, g3.1.is, en92, e92_0, e92_0n, e92_1, e92_4, th3, eq_self, tz, fo, vp01, hf0, lg_cmp_eq]
      exact hx _ _ _ _ hG (by omega) (by omega)
    · have tz : (nI (t_paint σ (sx (nI i + 1).toNatClampNeg) (sx (nI i + 2).toNatClampNeg) False) = 0) = False := by rw [nI_z tb]; exact eq_false ht
      simp (disch := omega) only [e217_1694, e217_1696, e217_1696n, e217_1697, e217_1700, e217_1702, e217_1705, e217_1706, e217_1707, e217_1709, e217_1712, e217_1712n, e217_1713, e217_1714, e217_1715, e217_1717, e217_1718, e217_1719, e217_1722, e217_1723, e217_1724, xKv, xK0, xKx, xKHv, xKH0, xk_none, xk_i, xk_f, xk_l, xk_r, xk_n, xc_i, xc_f, xc_l, xc_d, xc_r, xc_n, xo_some, List.map_cons, List.map_nil, List.sum_cons, List.sum_nil, xnzn, xpn0, xpn1, xpnb, xpnn, i10, i00, true_imp_iff, false_imp_iff, not_true_eq_false, not_false_eq_true, true_and, and_true, implies_true, xnz0, xnz1, xnzb, xfz0, xfz1, xfzb, Option.isSome_some, if_true, if_false, xbF, xbT, and_false, false_and, Nat.zero_le, Nat.reduceEqDiff, Nat.reduceLeDiff, Nat.reduceAdd, Nat.reduceSub, xiT, xiF, g3.1.is, en92, e92_0, e92_0n, e92_1, e92_4, th3, eq_self, tz]
      exact hx _ _ _ _ hG (by omega) (by omega)
  · skip
    simp (disch := omega) only [e217_1587, e217_1587n, e217_1588, e217_1588n, e217_1589, e217_1591, e217_1592, e217_1593, e217_1594, e217_1594n, e217_1595, e217_1597, e217_1598, e217_1599, e217_1600, e217_1600n, e217_1601, e217_1603, e217_1604, e217_1605, e217_1606, e217_1607, e217_1609, e217_1610, e217_1610n, e217_1611, e217_1613, e217_1614, e217_1615, e217_1616, e217_1617, e217_1620, e217_1621, e217_1622, e217_1622n, e217_1623, e217_1625, e217_1626, e217_1627, e217_1628, e217_1631, e217_1632, e217_1635, e217_1636, e217_1636n, xKv, xK0, xKx, xKHv, xKH0, xk_none, xk_i, xk_f, xk_l, xk_r, xk_n, xc_i, xc_f, xc_l, xc_d, xc_r, xc_n, xo_some, List.map_cons, List.map_nil, List.sum_cons, List.sum_nil, xnzn, xpn0, xpn1, xpnb, xpnn, i10, i00, true_imp_iff, false_imp_iff, not_true_eq_false, not_false_eq_true, true_and, and_true, implies_true, xnz0, xnz1, xnzb, xfz0, xfz1, xfzb, Option.isSome_some, if_true, if_false, xbF, xbT, and_false, false_and, Nat.zero_le, Nat.reduceEqDiff, Nat.reduceLeDiff, Nat.reduceAdd, Nat.reduceSub, xiT, xiF, v1, v2, v3, v4, v5, v6, eq_self, hz, hz]
    rw [e217_1637]
    rw [show Value.int 1 = .int (xb True) by rw [xbT]]
    refine ⟨⟨by decide, trivial, by omega, by omega⟩, sp_L_paint hK hS g2 hI hN hL (by omega) (fun A' τ' ah1 c1 l1 n1 o1 => ?_)⟩
    show xW _ _ _ _
    simp (disch := omega) only [e217_1640, e217_1642, e217_1642n, e217_1643, e217_1643n, e217_1644, e217_1646, e217_1647, e217_1648, e217_1649, e217_1649n, e217_1650, e217_1652, e217_1653, e217_1654, e217_1655, e217_1655n, e217_1656, e217_1658, e217_1659, e217_1660, e217_1661, e217_1662, e217_1664, e217_1665, e217_1665n, e217_1666, e217_1668, e217_1669, e217_1670, e217_1671, e217_1672, e217_1675, e217_1676, e217_1677, e217_1677n, e217_1678, e217_1680, e217_1681, e217_1682, e217_1683, e217_1686, e217_1687, e217_1690, xKv, xK0, xKx, xKHv, xKH0, xk_none, xk_i, xk_f, xk_l, xk_r, xk_n, xc_i, xc_f, xc_l, xc_d, xc_r, xc_n, xo_some, List.map_cons, List.map_nil, List.sum_cons, List.sum_nil, xnzn, xpn0, xpn1, xpnb, xpnn, i10, i00, true_imp_iff, false_imp_iff, not_true_eq_false, not_false_eq_true, true_and, and_true, implies_true, xnz0, xnz1, xnzb, xfz0, xfz1, xfzb, Option.isSome_some, if_true, if_false, xbF, xbT, and_false, false_and, Nat.zero_le, Nat.reduceEqDiff, Nat.reduceLeDiff, Nat.reduceAdd, Nat.reduceSub, xiT, xiF, v1, v2, v3, v4, v5, v6, eq_self, hz, hz]
    rw [e217_1691]
    rw [show Value.int 1 = .int (xb True) by rw [xbT]]
    refine ⟨⟨by decide, c1.1.is⟩, sp_m_paint c1.1 hI hN.2.1 (fun ah2 r2 => ?_)⟩
    have g3 := c1.md r2
    have th3 : xfld ah2 m 11 26 = some (.int (nI (t_paint σ (sx (nI i + 1).toNatClampNeg) (sx (nI i + 2).toNatClampNeg) True))) := g3.1.1
    have tb : t_paint σ (sx (nI i + 1).toNatClampNeg) (sx (nI i + 2).toNatClampNeg) True ≤ 3 := by unfold t_paint; repeat' (first | decide | apply xi_le)
    have hx := hX A' τ' (s_paint σ (sx (nI i + 1).toNatClampNeg) (sx (nI i + 2).toNatClampNeg) ((sx (nI i + 3).toNatClampNeg).toInt64 <<< ((32 : Int32).toInt64 &&& 63) ||| (sx (nI i + 4).toNatClampNeg).toInt64 &&& 4294967295) True) ah2 (t_paint σ (sx (nI i + 1).toNatClampNeg) (sx (nI i + 2).toNatClampNeg) True)
    have hG : GI κ ad m o d x A' τ' (s_paint σ (sx (nI i + 1).toNatClampNeg) (sx (nI i + 2).toNatClampNeg) ((sx (nI i + 3).toNatClampNeg).toInt64 <<< ((32 : Int32).toInt64 &&& 63) ||| (sx (nI i + 4).toNatClampNeg).toInt64 &&& 4294967295) True) ah2 (t_paint σ (sx (nI i + 1).toNatClampNeg) (sx (nI i + 2).toNatClampNeg) True) (j + 1) := ⟨g3, MI_paint hI, NJ_paint hN, l1, by omega⟩
    show xW _ _ _ _
    by_cases ht : t_paint σ (sx (nI i + 1).toNatClampNeg) (sx (nI i + 2).toNatClampNeg) True = 0
    · obtain ⟨f, hf, hf0⟩ := o1 ht
      rw [← tcN0] at hf0
      have hf2 : ah2 o = some (.inl (3, 1, .inr (.inl f))) := (r2.2.2.2.2 o c1.2.2.2.2.2.1 (fun c hc q => (c1.2.2.2.2.2.2.2.2 c hc).1 q.symm)).trans hf
      have fo : xal ah2 o = some (1, f) := xal_of hf2
      have tz : nI (t_paint σ (sx (nI i + 1).toNatClampNeg) (sx (nI i + 2).toNatClampNeg) True) = 0 := by rw [ht]; rfl
      simp (disch := omega) only [e217_1694, e217_1696, e217_1696n, e217_1697, e217_1700, e217_1702, e217_1705, e217_1706, e217_1707, e217_1709, e217_1712, e217_1712n, e217_1713, e217_1714, e217_1715, e217_1717, e217_1718, e217_1719, e217_1722, e217_1723, e217_1724, xKv, xK0, xKx, xKHv, xKH0, xk_none, xk_i, xk_f, xk_l, xk_r, xk_n, xc_i, xc_f, xc_l, xc_d, xc_r, xc_n, xo_some, List.map_cons, List.map_nil, List.sum_cons, List.sum_nil, xnzn, xpn0, xpn1, xpnb, xpnn, i10, i00, true_imp_iff, false_imp_iff, not_true_eq_false, not_false_eq_true, true_and, and_true, implies_true, xnz0, xnz1, xnzb, xfz0, xfz1, xfzb, Option.isSome_some, if_true, if_false, xbF, xbT, and_false, false_and, Nat.zero_le, Nat.reduceEqDiff, Nat.reduceLeDiff, Nat.reduceAdd, Nat.reduceSub, xiT, xiF, g3.1.is, en92, e92_0, e92_0n, e92_1, e92_4, th3, eq_self, tz, fo, vp01, hf0, lg_cmp_eq]
      exact hx _ _ _ _ hG (by omega) (by omega)
    · have tz : (nI (t_paint σ (sx (nI i + 1).toNatClampNeg) (sx (nI i + 2).toNatClampNeg) True) = 0) = False := by rw [nI_z tb]; exact eq_false ht
      simp (disch := omega) only [e217_1694, e217_1696, e217_1696n, e217_1697, e217_1700, e217_1702, e217_1705, e217_1706, e217_1707, e217_1709, e217_1712, e217_1712n, e217_1713, e217_1714, e217_1715, e217_1717, e217_1718, e217_1719, e217_1722, e217_1723, e217_1724, xKv, xK0, xKx, xKHv, xKH0, xk_none, xk_i, xk_f, xk_l, xk_r, xk_n, xc_i, xc_f, xc_l, xc_d, xc_r, xc_n, xo_some, List.map_cons, List.map_nil, List.sum_cons, List.sum_nil, xnzn, xpn0, xpn1, xpnb, xpnn, i10, i00, true_imp_iff, false_imp_iff, not_true_eq_false, not_false_eq_true, true_and, and_true, implies_true, xnz0, xnz1, xnzb, xfz0, xfz1, xfzb, Option.isSome_some, if_true, if_false, xbF, xbT, and_false, false_and, Nat.zero_le, Nat.reduceEqDiff, Nat.reduceLeDiff, Nat.reduceAdd, Nat.reduceSub, xiT, xiF, g3.1.is, en92, e92_0, e92_0n, e92_1, e92_4, th3, eq_self, tz]
      exact hx _ _ _ _ hG (by omega) (by omega)
theorem rd_ofCell (hK : KI κ) (hS : KS κ) (g : GI κ ad m o d x A τ σ ah th j) (hj : j < 512) (hk : 60 ≤ k) (hn : 8000 ≤ n) (v1 : vp_in (nI i + 1) sL = True) (v2 : vp_in (nI i + 2) sL = True) (v3 : vp_in (nI i + 3) sL = True) (v4 : vp_in (nI i + 4) sL = True) (v5 : vp_in (nI i + 5) sL = True) (v6 : vp_in (nI i + 6) sL = True) (hX : LX κ ad sb sL sx R m o d x i j k n) : xW (TL κ sb sL sx) (xm κ) R (1727, [some (.ref sb), some (.ref x), some (.ref m), some (.ref o), some (.ref d), some (.int (nI i)), a6, a7], [], ah, k, n) := by
  obtain ⟨g2, hI, hN, hL, hJ⟩ := g
  simp (disch := omega) only [e217_1727, e217_1727n, e217_1728, e217_1728n, e217_1729, e217_1731, e217_1732, e217_1733, e217_1734, e217_1734n, e217_1735, e217_1737, e217_1738, e217_1739, e217_1740, e217_1740n, xKv, xK0, xKx, xKHv, xKH0, xk_none, xk_i, xk_f, xk_l, xk_r, xk_n, xc_i, xc_f, xc_l, xc_d, xc_r, xc_n, xo_some, List.map_cons, List.map_nil, List.sum_cons, List.sum_nil, xnzn, xpn0, xpn1, xpnb, xpnn, i10, i00, true_imp_iff, false_imp_iff, not_true_eq_false, not_false_eq_true, true_and, and_true, implies_true, xnz0, xnz1, xnzb, xfz0, xfz1, xfzb, Option.isSome_some, if_true, if_false, xbF, xbT, and_false, false_and, Nat.zero_le, Nat.reduceEqDiff, Nat.reduceLeDiff, Nat.reduceAdd, Nat.reduceSub, xiT, xiF, v1, v2, v3, v4, v5, v6, eq_self]
  rw [e217_1741]
  refine ⟨⟨by decide, trivial, by omega, by omega⟩, sp_L_ofCell hK hS g2 hI hN hL (by omega) (fun A' τ' ah1 c1 l1 n1 o1 => ?_)⟩
  show xW _ _ _ _
  simp (disch := omega) only [e217_1744, e217_1746, e217_1746n, e217_1747, e217_1747n, e217_1748, e217_1750, e217_1751, e217_1752, e217_1753, e217_1753n, e217_1754, e217_1756, e217_1757, e217_1758, xKv, xK0, xKx, xKHv, xKH0, xk_none, xk_i, xk_f, xk_l, xk_r, xk_n, xc_i, xc_f, xc_l, xc_d, xc_r, xc_n, xo_some, List.map_cons, List.map_nil, List.sum_cons, List.sum_nil, xnzn, xpn0, xpn1, xpnb, xpnn, i10, i00, true_imp_iff, false_imp_iff, not_true_eq_false, not_false_eq_true, true_and, and_true, implies_true, xnz0, xnz1, xnzb, xfz0, xfz1, xfzb, Option.isSome_some, if_true, if_false, xbF, xbT, and_false, false_and, Nat.zero_le, Nat.reduceEqDiff, Nat.reduceLeDiff, Nat.reduceAdd, Nat.reduceSub, xiT, xiF, v1, v2, v3, v4, v5, v6, eq_self]
  rw [e217_1759]
  refine ⟨⟨by decide, c1.1.is⟩, sp_m_ofCell c1.1 hI (fun ah2 r2 => ?_)⟩
  have g3 := c1.md r2
  have th3 : xfld ah2 m 11 26 = some (.int (nI (t_ofCell (sx (nI i + 1).toNatClampNeg) (sx (nI i + 2).toNatClampNeg)))) := g3.1.1
  have tb : t_ofCell (sx (nI i + 1).toNatClampNeg) (sx (nI i + 2).toNatClampNeg) ≤ 3 := by unfold t_ofCell; repeat' (first | decide | apply xi_le)
  have hx := hX A' τ' σ ah2 (t_ofCell (sx (nI i + 1).toNatClampNeg) (sx (nI i + 2).toNatClampNeg))
  have hG : GI κ ad m o d x A' τ' σ ah2 (t_ofCell (sx (nI i + 1).toNatClampNeg) (sx (nI i + 2).toNatClampNeg)) (j + 1) := ⟨g3, hI, hN, l1, by omega⟩
  show xW _ _ _ _
  by_cases ht : t_ofCell (sx (nI i + 1).toNatClampNeg) (sx (nI i + 2).toNatClampNeg) = 0
  · obtain ⟨f, hf, hf0⟩ := o1 ht
    rw [← tcN0] at hf0
    have hf2 : ah2 o = some (.inl (3, 1, .inr (.inl f))) := (r2.2.2.2.2 o c1.2.2.2.2.2.1 (fun c hc q => (c1.2.2.2.2.2.2.2.2 c hc).1 q.symm)).trans hf
    have fo : xal ah2 o = some (1, f) := xal_of hf2
    have tz : nI (t_ofCell (sx (nI i + 1).toNatClampNeg) (sx (nI i + 2).toNatClampNeg)) = 0 := by rw [ht]; rfl
    simp (disch := omega) only [e217_1762, e217_1764, e217_1764n, e217_1765, e217_1768, e217_1770, e217_1773, e217_1774, e217_1775, e217_1777, e217_1780, e217_1780n, e217_1781, e217_1782, e217_1783, e217_1785, e217_1786, e217_1787, e217_1790, e217_1791, e217_1792, xKv, xK0, xKx, xKHv, xKH0, xk_none, xk_i, xk_f, xk_l, xk_r, xk_n, xc_i, xc_f, xc_l, xc_d, xc_r, xc_n, xo_some, List.map_cons, List.map_nil, List.sum_cons, List.sum_nil, xnzn, xpn0, xpn1, xpnb, xpnn, i10, i00, true_imp_iff, false_imp_iff, not_true_eq_false, not_false_eq_true, true_and, and_true, implies_true, xnz0, xnz1, xnzb, xfz0, xfz1, xfzb, Option.isSome_some, if_true, if_false, xbF, xbT, and_false, false_and, Nat.zero_le, Nat.reduceEqDiff, Nat.reduceLeDiff, Nat.reduceAdd, Nat.reduceSub, xiT, xiF, g3.1.is, en92, e92_0, e92_0n, e92_1, e92_4, th3, eq_self, tz, fo, vp01, hf0, lg_cmp_eq]
    exact hx _ _ _ _ hG (by omega) (by omega)
  · have tz : (nI (t_ofCell (sx (nI i + 1).toNatClampNeg) (sx (nI i + 2).toNatClampNeg)) = 0) = False := by rw [nI_z tb]; exact eq_false ht
    simp (disch := omega) only [e217_1762, e217_1764, e217_1764n, e217_1765, e217_1768, e217_1770, e217_1773, e217_1774, e217_1775, e217_1777, e217_1780, e217_1780n, e217_1781, e217_1782, e217_1783, e217_1785, e217_1786, e217_1787, e217_1790, e217_1791, e217_1792, xKv, xK0, xKx, xKHv, xKH0, xk_none, xk_i, xk_f, xk_l, xk_r, xk_n, xc_i, xc_f, xc_l, xc_d, xc_r, xc_n, xo_some, List.map_cons, List.map_nil, List.sum_cons, List.sum_nil, xnzn, xpn0, xpn1, xpnb, xpnn, i10, i00, true_imp_iff, false_imp_iff, not_true_eq_false, not_false_eq_true, true_and, and_true, implies_true, xnz0, xnz1, xnzb, xfz0, xfz1, xfzb, Option.isSome_some, if_true, if_false, xbF, xbT, and_false, false_and, Nat.zero_le, Nat.reduceEqDiff, Nat.reduceLeDiff, Nat.reduceAdd, Nat.reduceSub, xiT, xiF, g3.1.is, en92, e92_0, e92_0n, e92_1, e92_4, th3, eq_self, tz]
    exact hx _ _ _ _ hG (by omega) (by omega)
theorem rd_over (hK : KI κ) (hS : KS κ) (g : GI κ ad m o d x A τ σ ah th j) (hj : j < 512) (hk : 60 ≤ k) (hn : 8000 ≤ n) (v1 : vp_in (nI i + 1) sL = True) (v2 : vp_in (nI i + 2) sL = True) (v3 : vp_in (nI i + 3) sL = True) (v4 : vp_in (nI i + 4) sL = True) (v5 : vp_in (nI i + 5) sL = True) (v6 : vp_in (nI i + 6) sL = True) (hX : LX κ ad sb sL sx R m o d x i j k n) : xW (TL κ sb sL sx) (xm κ) R (1795, [some (.ref sb), some (.ref x), some (.ref m), some (.ref o), some (.ref d), some (.int (nI i)), a6, a7], [], ah, k, n) := by
  obtain ⟨g2, hI, hN, hL, hJ⟩ := g
  simp (disch := omega) only [e217_1795, e217_1795n, e217_1796, e217_1796n, e217_1797, e217_1799, e217_1800, e217_1801, e217_1802, e217_1802n, xKv, xK0, xKx, xKHv, xKH0, xk_none, xk_i, xk_f, xk_l, xk_r, xk_n, xc_i, xc_f, xc_l, xc_d, xc_r, xc_n, xo_some, List.map_cons, List.map_nil, List.sum_cons, List.sum_nil, xnzn, xpn0, xpn1, xpnb, xpnn, i10, i00, true_imp_iff, false_imp_iff, not_true_eq_false, not_false_eq_true, true_and, and_true, implies_true, xnz0, xnz1, xnzb, xfz0, xfz1, xfzb, Option.isSome_some, if_true, if_false, xbF, xbT, and_false, false_and, Nat.zero_le, Nat.reduceEqDiff, Nat.reduceLeDiff, Nat.reduceAdd, Nat.reduceSub, xiT, xiF, v1, v2, v3, v4, v5, v6, eq_self]
  rw [e217_1803]
  refine ⟨⟨by decide, trivial, by omega, by omega⟩, sp_L_over hK hS g2 hI hN hL (by omega) (fun A' τ' ah1 c1 l1 n1 o1 => ?_)⟩
  show xW _ _ _ _
  simp (disch := omega) only [e217_1806, e217_1808, e217_1808n, e217_1809, e217_1809n, e217_1810, e217_1812, e217_1813, e217_1814, xKv, xK0, xKx, xKHv, xKH0, xk_none, xk_i, xk_f, xk_l, xk_r, xk_n, xc_i, xc_f, xc_l, xc_d, xc_r, xc_n, xo_some, List.map_cons, List.map_nil, List.sum_cons, List.sum_nil, xnzn, xpn0, xpn1, xpnb, xpnn, i10, i00, true_imp_iff, false_imp_iff, not_true_eq_false, not_false_eq_true, true_and, and_true, implies_true, xnz0, xnz1, xnzb, xfz0, xfz1, xfzb, Option.isSome_some, if_true, if_false, xbF, xbT, and_false, false_and, Nat.zero_le, Nat.reduceEqDiff, Nat.reduceLeDiff, Nat.reduceAdd, Nat.reduceSub, xiT, xiF, v1, v2, v3, v4, v5, v6, eq_self]
  rw [e217_1815]
  refine ⟨⟨by decide, c1.1.is⟩, sp_m_over c1.1 hI (fun ah2 r2 => ?_)⟩
  have g3 := c1.md r2
  have th3 : xfld ah2 m 11 26 = some (.int (nI (t_over σ (sx (nI i + 1).toNatClampNeg)))) := g3.1.1
  have tb : t_over σ (sx (nI i + 1).toNatClampNeg) ≤ 3 := by unfold t_over; repeat' (first | decide | apply xi_le)
  have hx := hX A' τ' σ ah2 (t_over σ (sx (nI i + 1).toNatClampNeg))
  have hG : GI κ ad m o d x A' τ' σ ah2 (t_over σ (sx (nI i + 1).toNatClampNeg)) (j + 1) := ⟨g3, hI, hN, l1, by omega⟩
  show xW _ _ _ _
  by_cases ht : t_over σ (sx (nI i + 1).toNatClampNeg) = 0
  · obtain ⟨f, hf, hf0⟩ := o1 ht
    rw [← tcN0] at hf0
    have hf2 : ah2 o = some (.inl (3, 1, .inr (.inl f))) := (r2.2.2.2.2 o c1.2.2.2.2.2.1 (fun c hc q => (c1.2.2.2.2.2.2.2.2 c hc).1 q.symm)).trans hf
    have fo : xal ah2 o = some (1, f) := xal_of hf2
    have tz : nI (t_over σ (sx (nI i + 1).toNatClampNeg)) = 0 := by rw [ht]; rfl
    simp (disch := omega) only [e217_1818, e217_1820, e217_1820n, e217_1821, e217_1824, e217_1826, e217_1829, e217_1830, e217_1831, e217_1833, e217_1836, e217_1836n, e217_1837, e217_1838, e217_1839, e217_1841, e217_1842, e217_1843, e217_1846, e217_1847, e217_1848, xKv, xK0, xKx, xKHv, xKH0, xk_none, xk_i, xk_f, xk_l, xk_r, xk_n, xc_i, xc_f, xc_l, xc_d, xc_r, xc_n, xo_some, List.map_cons, List.map_nil, List.sum_cons, List.sum_nil, xnzn, xpn0, xpn1, xpnb, xpnn, i10, i00, true_imp_iff, false_imp_iff, not_true_eq_false, not_false_eq_true, true_and, and_true, implies_true, xnz0, xnz1, xnzb, xfz0, xfz1, xfzb, Option.isSome_some, if_true, if_false, xbF, xbT, and_false, false_and, Nat.zero_le, Nat.reduceEqDiff, Nat.reduceLeDiff, Nat.reduceAdd, Nat.reduceSub, xiT, xiF, g3.1.is, en92, e92_0, e92_0n, e92_1, e92_4, th3, eq_self, tz, fo, vp01, hf0, lg_cmp_eq]
    exact hx _ _ _ _ hG (by omega) (by omega)
  · have tz : (nI (t_over σ (sx (nI i + 1).toNatClampNeg)) = 0) = False := by rw [nI_z tb]; exact eq_false ht
    simp (disch := omega) only [e217_1818, e217_1820, e217_1820n, e217_1821, e217_1824, e217_1826, e217_1829, e217_1830, e217_1831, e217_1833, e217_1836, e217_1836n, e217_1837, e217_1838, e217_1839, e217_1841, e217_1842, e217_1843, e217_1846, e217_1847, e217_1848, xKv, xK0, xKx, xKHv, xKH0, xk_none, xk_i, xk_f, xk_l, xk_r, xk_n, xc_i, xc_f, xc_l, xc_d, xc_r, xc_n, xo_some, List.map_cons, List.map_nil, List.sum_cons, List.sum_nil, xnzn, xpn0, xpn1, xpnb, xpnn, i10, i00, true_imp_iff, false_imp_iff, not_true_eq_false, not_false_eq_true, true_and, and_true, implies_true, xnz0, xnz1, xnzb, xfz0, xfz1, xfzb, Option.isSome_some, if_true, if_false, xbF, xbT, and_false, false_and, Nat.zero_le, Nat.reduceEqDiff, Nat.reduceLeDiff, Nat.reduceAdd, Nat.reduceSub, xiT, xiF, g3.1.is, en92, e92_0, e92_0n, e92_1, e92_4, th3, eq_self, tz]
    exact hx _ _ _ _ hG (by omega) (by omega)
theorem rd_tells (hK : KI κ) (hS : KS κ) (g : GI κ ad m o d x A τ σ ah th j) (hj : j < 512) (hk : 60 ≤ k) (hn : 8000 ≤ n) (v1 : vp_in (nI i + 1) sL = True) (v2 : vp_in (nI i + 2) sL = True) (v3 : vp_in (nI i + 3) sL = True) (v4 : vp_in (nI i + 4) sL = True) (v5 : vp_in (nI i + 5) sL = True) (v6 : vp_in (nI i + 6) sL = True) (hX : LX κ ad sb sL sx R m o d x i j k n) : xW (TL κ sb sL sx) (xm κ) R (1851, [some (.ref sb), some (.ref x), some (.ref m), some (.ref o), some (.ref d), some (.int (nI i)), a6, a7], [], ah, k, n) := by
  obtain ⟨g2, hI, hN, hL, hJ⟩ := g
  simp (disch := omega) only [e217_1851, e217_1851n, e217_1852, e217_1852n, e217_1853, e217_1855, e217_1856, e217_1857, e217_1858, e217_1858n, e217_1859, e217_1861, e217_1862, e217_1863, e217_1864, e217_1864n, e217_1865, e217_1867, e217_1868, e217_1869, e217_1870, e217_1870n, e217_1871, e217_1873, e217_1874, e217_1875, e217_1876, e217_1876n, e217_1877, e217_1879, e217_1880, e217_1881, e217_1882, e217_1882n, e217_1883, e217_1885, e217_1887, e217_1888, e217_1889, e217_1889n, xKv, xK0, xKx, xKHv, xKH0, xk_none, xk_i, xk_f, xk_l, xk_r, xk_n, xc_i, xc_f, xc_l, xc_d, xc_r, xc_n, xo_some, List.map_cons, List.map_nil, List.sum_cons, List.sum_nil, xnzn, xpn0, xpn1, xpnb, xpnn, i10, i00, true_imp_iff, false_imp_iff, not_true_eq_false, not_false_eq_true, true_and, and_true, implies_true, xnz0, xnz1, xnzb, xfz0, xfz1, xfzb, Option.isSome_some, if_true, if_false, xbF, xbT, and_false, false_and, Nat.zero_le, Nat.reduceEqDiff, Nat.reduceLeDiff, Nat.reduceAdd, Nat.reduceSub, xiT, xiF, v1, v2, v3, v4, v5, v6, eq_self]
  rw [e217_1890]
  refine ⟨⟨by decide, trivial, by omega, by omega⟩, sp_L_tells hK hS g2 hI hN hL (by omega) (fun A' τ' ah1 c1 l1 n1 o1 => ?_)⟩
  show xW _ _ _ _
  simp (disch := omega) only [e217_1893, e217_1895, e217_1895n, e217_1896, e217_1896n, e217_1897, e217_1899, e217_1900, e217_1901, e217_1902, e217_1902n, e217_1903, e217_1905, e217_1906, e217_1907, e217_1908, e217_1908n, e217_1909, e217_1911, e217_1912, e217_1913, e217_1914, e217_1914n, e217_1915, e217_1917, e217_1918, e217_1919, e217_1920, e217_1920n, e217_1921, e217_1923, e217_1924, e217_1925, e217_1926, e217_1926n, e217_1927, e217_1929, e217_1931, e217_1932, xKv, xK0, xKx, xKHv, xKH0, xk_none, xk_i, xk_f, xk_l, xk_r, xk_n, xc_i, xc_f, xc_l, xc_d, xc_r, xc_n, xo_some, List.map_cons, List.map_nil, List.sum_cons, List.sum_nil, xnzn, xpn0, xpn1, xpnb, xpnn, i10, i00, true_imp_iff, false_imp_iff, not_true_eq_false, not_false_eq_true, true_and, and_true, implies_true, xnz0, xnz1, xnzb, xfz0, xfz1, xfzb, Option.isSome_some, if_true, if_false, xbF, xbT, and_false, false_and, Nat.zero_le, Nat.reduceEqDiff, Nat.reduceLeDiff, Nat.reduceAdd, Nat.reduceSub, xiT, xiF, v1, v2, v3, v4, v5, v6, eq_self]
  rw [e217_1933]
  refine ⟨⟨by decide, c1.1.is⟩, sp_m_tells c1.1 (fun ah2 r2 => ?_)⟩
  have g3 := c1.md r2
  have th3 : xfld ah2 m 11 26 = some (.int (nI (t_tells (sx (nI i + 1).toNatClampNeg) (sx (nI i + 2).toNatClampNeg) (sx (nI i + 3).toNatClampNeg) (sx (nI i + 4).toNatClampNeg) (sx (nI i + 5).toNatClampNeg) (sx (nI i + 6).toNatClampNeg)))) := g3.1.1
  have tb : t_tells (sx (nI i + 1).toNatClampNeg) (sx (nI i + 2).toNatClampNeg) (sx (nI i + 3).toNatClampNeg) (sx (nI i + 4).toNatClampNeg) (sx (nI i + 5).toNatClampNeg) (sx (nI i + 6).toNatClampNeg) ≤ 3 := by unfold t_tells; repeat' (first | decide | apply xi_le)
  have hx := hX A' τ' σ ah2 (t_tells (sx (nI i + 1).toNatClampNeg) (sx (nI i + 2).toNatClampNeg) (sx (nI i + 3).toNatClampNeg) (sx (nI i + 4).toNatClampNeg) (sx (nI i + 5).toNatClampNeg) (sx (nI i + 6).toNatClampNeg))
  have hG : GI κ ad m o d x A' τ' σ ah2 (t_tells (sx (nI i + 1).toNatClampNeg) (sx (nI i + 2).toNatClampNeg) (sx (nI i + 3).toNatClampNeg) (sx (nI i + 4).toNatClampNeg) (sx (nI i + 5).toNatClampNeg) (sx (nI i + 6).toNatClampNeg)) (j + 1) := ⟨g3, hI, hN, l1, by omega⟩
  show xW _ _ _ _
  by_cases ht : t_tells (sx (nI i + 1).toNatClampNeg) (sx (nI i + 2).toNatClampNeg) (sx (nI i + 3).toNatClampNeg) (sx (nI i + 4).toNatClampNeg) (sx (nI i + 5).toNatClampNeg) (sx (nI i + 6).toNatClampNeg) = 0
  · obtain ⟨f, hf, hf0⟩ := o1 ht
    rw [← tcN0] at hf0
    have hf2 : ah2 o = some (.inl (3, 1, .inr (.inl f))) := (r2.2.2.2.2 o c1.2.2.2.2.2.1 (fun c hc q => (c1.2.2.2.2.2.2.2.2 c hc).1 q.symm)).trans hf
    have fo : xal ah2 o = some (1, f) := xal_of hf2
    have tz : nI (t_tells (sx (nI i + 1).toNatClampNeg) (sx (nI i + 2).toNatClampNeg) (sx (nI i + 3).toNatClampNeg) (sx (nI i + 4).toNatClampNeg) (sx (nI i + 5).toNatClampNeg) (sx (nI i + 6).toNatClampNeg)) = 0 := by rw [ht]; rfl
    simp (disch := omega) only [e217_1936, e217_1938, e217_1938n, e217_1939, e217_1942, e217_1944, e217_1947, e217_1948, e217_1949, e217_1951, e217_1954, e217_1954n, e217_1955, e217_1956, e217_1957, e217_1959, e217_1960, e217_1961, e217_1964, e217_1965, e217_1966, xKv, xK0, xKx, xKHv, xKH0, xk_none, xk_i, xk_f, xk_l, xk_r, xk_n, xc_i, xc_f, xc_l, xc_d, xc_r, xc_n, xo_some, List.map_cons, List.map_nil, List.sum_cons, List.sum_nil, xnzn, xpn0, xpn1, xpnb, xpnn, i10, i00, true_imp_iff, false_imp_iff, not_true_eq_false, not_false_eq_true, true_and, and_true, implies_true, xnz0, xnz1, xnzb, xfz0, xfz1, xfzb, Option.isSome_some, if_true, if_false, xbF, xbT, and_false, false_and, Nat.zero_le, Nat.reduceEqDiff, Nat.reduceLeDiff, Nat.reduceAdd, Nat.reduceSub, xiT, xiF, g3.1.is, en92, e92_0, e92_0n, e92_1, e92_4, th3, eq_self, tz, fo, vp01, hf0, lg_cmp_eq]
    exact hx _ _ _ _ hG (by omega) (by omega)
  · have tz : (nI (t_tells (sx (nI i + 1).toNatClampNeg) (sx (nI i + 2).toNatClampNeg) (sx (nI i + 3).toNatClampNeg) (sx (nI i + 4).toNatClampNeg) (sx (nI i + 5).toNatClampNeg) (sx (nI i + 6).toNatClampNeg)) = 0) = False := by rw [nI_z tb]; exact eq_false ht
    simp (disch := omega) only [e217_1936, e217_1938, e217_1938n, e217_1939, e217_1942, e217_1944, e217_1947, e217_1948, e217_1949, e217_1951, e217_1954, e217_1954n, e217_1955, e217_1956, e217_1957, e217_1959, e217_1960, e217_1961, e217_1964, e217_1965, e217_1966, xKv, xK0, xKx, xKHv, xKH0, xk_none, xk_i, xk_f, xk_l, xk_r, xk_n, xc_i, xc_f, xc_l, xc_d, xc_r, xc_n, xo_some, List.map_cons, List.map_nil, List.sum_cons, List.sum_nil, xnzn, xpn0, xpn1, xpnb, xpnn, i10, i00, true_imp_iff, false_imp_iff, not_true_eq_false, not_false_eq_true, true_and, and_true, implies_true, xnz0, xnz1, xnzb, xfz0, xfz1, xfzb, Option.isSome_some, if_true, if_false, xbF, xbT, and_false, false_and, Nat.zero_le, Nat.reduceEqDiff, Nat.reduceLeDiff, Nat.reduceAdd, Nat.reduceSub, xiT, xiF, g3.1.is, en92, e92_0, e92_0n, e92_1, e92_4, th3, eq_self, tz]
    exact hx _ _ _ _ hG (by omega) (by omega)
theorem rd_pins (hK : KI κ) (hS : KS κ) (g : GI κ ad m o d x A τ σ ah th j) (hj : j < 512) (hk : 60 ≤ k) (hn : 8000 ≤ n) (v1 : vp_in (nI i + 1) sL = True) (v2 : vp_in (nI i + 2) sL = True) (v3 : vp_in (nI i + 3) sL = True) (v4 : vp_in (nI i + 4) sL = True) (v5 : vp_in (nI i + 5) sL = True) (v6 : vp_in (nI i + 6) sL = True) (hX : LX κ ad sb sL sx R m o d x i j k n) : xW (TL κ sb sL sx) (xm κ) R (1969, [some (.ref sb), some (.ref x), some (.ref m), some (.ref o), some (.ref d), some (.int (nI i)), a6, a7], [], ah, k, n) := by
  obtain ⟨g2, hI, hN, hL, hJ⟩ := g
  have ex := g2.2.2.1
  simp (disch := omega) only [e217_1969, e217_1969n, e217_1970, e217_1970n, e217_1971, e217_1973, e217_1974, e217_1975, e217_1976, e217_1977, e217_1979, e217_1980, e217_1980n, e217_1981, e217_1983, e217_1984, e217_1985, e217_1986, e217_1987, e217_1990, e217_1991, xKv, xK0, xKx, xKHv, xKH0, xk_none, xk_i, xk_f, xk_l, xk_r, xk_n, xc_i, xc_f, xc_l, xc_d, xc_r, xc_n, xo_some, List.map_cons, List.map_nil, List.sum_cons, List.sum_nil, xnzn, xpn0, xpn1, xpnb, xpnn, i10, i00, true_imp_iff, false_imp_iff, not_true_eq_false, not_false_eq_true, true_and, and_true, implies_true, xnz0, xnz1, xnzb, xfz0, xfz1, xfzb, Option.isSome_some, if_true, if_false, xbF, xbT, and_false, false_and, Nat.zero_le, Nat.reduceEqDiff, Nat.reduceLeDiff, Nat.reduceAdd, Nat.reduceSub, xiT, xiF, v1, v2, v3, v4, v5, v6, eq_self]
  rw [e217_1992, ← ex]
  refine ⟨⟨by decide, ⟨_, g2.2.1.x⟩⟩, sp_c_pins g2.2.1 hL (fun A' τ' ah1 c1 l1 n1 e1 => ?_)⟩
  have g1 := g2.cl c1 e1
  show xW _ _ _ _
  simp (disch := omega) only [e217_1995, e217_1995n, e217_1996, e217_1996n, e217_1997, e217_1999, e217_2000, e217_2001, e217_2002, e217_2003, e217_2005, e217_2006, e217_2006n, e217_2007, e217_2009, e217_2010, e217_2011, e217_2012, e217_2013, e217_2016, e217_2017, xKv, xK0, xKx, xKHv, xKH0, xk_none, xk_i, xk_f, xk_l, xk_r, xk_n, xc_i, xc_f, xc_l, xc_d, xc_r, xc_n, xo_some, List.map_cons, List.map_nil, List.sum_cons, List.sum_nil, xnzn, xpn0, xpn1, xpnb, xpnn, i10, i00, true_imp_iff, false_imp_iff, not_true_eq_false, not_false_eq_true, true_and, and_true, implies_true, xnz0, xnz1, xnzb, xfz0, xfz1, xfzb, Option.isSome_some, if_true, if_false, xbF, xbT, and_false, false_and, Nat.zero_le, Nat.reduceEqDiff, Nat.reduceLeDiff, Nat.reduceAdd, Nat.reduceSub, xiT, xiF, v1, v2, v3, v4, v5, v6, eq_self]
  rw [e217_2018]
  refine ⟨⟨show (1 + 0 : Nat) ≤ 8 from by decide, g1.1.is⟩, sp_m_pins g1.1 (fun ah2 σ2 r2 s2 => ?_)⟩
  have g3 := g1.md r2
  show xW _ _ _ _
  simp (disch := omega) only [e217_2021, e217_2024, e217_2025, xKv, xK0, xKx, xKHv, xKH0, xk_none, xk_i, xk_f, xk_l, xk_r, xk_n, xc_i, xc_f, xc_l, xc_d, xc_r, xc_n, xo_some, List.map_cons, List.map_nil, List.sum_cons, List.sum_nil, xnzn, xpn0, xpn1, xpnb, xpnn, i10, i00, true_imp_iff, false_imp_iff, not_true_eq_false, not_false_eq_true, true_and, and_true, implies_true, xnz0, xnz1, xnzb, xfz0, xfz1, xfzb, Option.isSome_some, if_true, if_false, xbF, xbT, and_false, false_and, Nat.zero_le, Nat.reduceEqDiff, Nat.reduceLeDiff, Nat.reduceAdd, Nat.reduceSub, xiT, xiF, eq_self]
  rw [ex]
  exact hX A' τ' σ2 ah2 0 _ _ _ _ ⟨⟨g3.1, g3.2.1.cgr (fun c i hc => s2 c i (fun q => hc (by rw [q]; decide))), g3.2.2.1, g3.2.2.2⟩, MI_25 hI s2, NJ_cg hN (fun c i hc => s2 c i (by omega)), ⟨LKp_cg l1.1 (fun c i hc => s2 c i (by omega)) (fun _ => rfl), LKg_cg l1.2.1 (fun i => s2 8 i (by decide)) (fun _ _ _ => rfl), LKf_cg l1.2.2 (fun c i hc => s2 c i (by omega)) (fun _ _ _ => rfl)⟩, by omega⟩ (by omega) (by omega)
theorem rd_bill (hK : KI κ) (hS : KS κ) (g : GI κ ad m o d x A τ σ ah th j) (hj : j < 512) (hk : 60 ≤ k) (hn : 8000 ≤ n) (v1 : vp_in (nI i + 1) sL = True) (v2 : vp_in (nI i + 2) sL = True) (v3 : vp_in (nI i + 3) sL = True) (v4 : vp_in (nI i + 4) sL = True) (v5 : vp_in (nI i + 5) sL = True) (v6 : vp_in (nI i + 6) sL = True) (hX : LX κ ad sb sL sx R m o d x i j k n) : xW (TL κ sb sL sx) (xm κ) R (2026, [some (.ref sb), some (.ref x), some (.ref m), some (.ref o), some (.ref d), some (.int (nI i)), a6, a7], [], ah, k, n) := by
  obtain ⟨g2, hI, hN, hL, hJ⟩ := g
  simp (disch := omega) only [e217_2026, e217_2026n, e217_2027, e217_2027n, e217_2028, e217_2030, e217_2031, e217_2032, e217_2033, e217_2033n, e217_2034, e217_2036, e217_2037, e217_2038, e217_2039, e217_2039n, e217_2040, e217_2042, e217_2043, e217_2044, e217_2045, e217_2045n, xKv, xK0, xKx, xKHv, xKH0, xk_none, xk_i, xk_f, xk_l, xk_r, xk_n, xc_i, xc_f, xc_l, xc_d, xc_r, xc_n, xo_some, List.map_cons, List.map_nil, List.sum_cons, List.sum_nil, xnzn, xpn0, xpn1, xpnb, xpnn, i10, i00, true_imp_iff, false_imp_iff, not_true_eq_false, not_false_eq_true, true_and, and_true, implies_true, xnz0, xnz1, xnzb, xfz0, xfz1, xfzb, Option.isSome_some, if_true, if_false, xbF, xbT, and_false, false_and, Nat.zero_le, Nat.reduceEqDiff, Nat.reduceLeDiff, Nat.reduceAdd, Nat.reduceSub, xiT, xiF, v1, v2, v3, v4, v5, v6, eq_self]
  rw [e217_2046]
  refine ⟨⟨by decide, trivial, by omega, by omega⟩, sp_L_bill hK hS g2 hI hN hL (by omega) (fun A' τ' ah1 c1 l1 n1 o1 => ?_)⟩
  show xW _ _ _ _
  simp (disch := omega) only [e217_2049, e217_2051, e217_2051n, e217_2052, e217_2052n, e217_2053, e217_2055, e217_2056, e217_2057, e217_2058, e217_2058n, e217_2059, e217_2061, e217_2062, e217_2063, e217_2064, e217_2064n, e217_2065, e217_2067, e217_2068, e217_2069, xKv, xK0, xKx, xKHv, xKH0, xk_none, xk_i, xk_f, xk_l, xk_r, xk_n, xc_i, xc_f, xc_l, xc_d, xc_r, xc_n, xo_some, List.map_cons, List.map_nil, List.sum_cons, List.sum_nil, xnzn, xpn0, xpn1, xpnb, xpnn, i10, i00, true_imp_iff, false_imp_iff, not_true_eq_false, not_false_eq_true, true_and, and_true, implies_true, xnz0, xnz1, xnzb, xfz0, xfz1, xfzb, Option.isSome_some, if_true, if_false, xbF, xbT, and_false, false_and, Nat.zero_le, Nat.reduceEqDiff, Nat.reduceLeDiff, Nat.reduceAdd, Nat.reduceSub, xiT, xiF, v1, v2, v3, v4, v5, v6, eq_self]
  rw [e217_2070]
  refine ⟨⟨by decide, c1.1.is⟩, sp_m_bill c1.1 hI (fun ah2 r2 => ?_)⟩
  have g3 := c1.md r2
  have th3 : xfld ah2 m 11 26 = some (.int (nI (t_bill σ (sx (nI i + 1).toNatClampNeg) (sx (nI i + 2).toNatClampNeg) (sx (nI i + 3).toNatClampNeg)))) := g3.1.1
  have tb : t_bill σ (sx (nI i + 1).toNatClampNeg) (sx (nI i + 2).toNatClampNeg) (sx (nI i + 3).toNatClampNeg) ≤ 3 := by unfold t_bill; repeat' (first | decide | apply xi_le)
  have hx := hX A' τ' σ ah2 (t_bill σ (sx (nI i + 1).toNatClampNeg) (sx (nI i + 2).toNatClampNeg) (sx (nI i + 3).toNatClampNeg))
  have hG : GI κ ad m o d x A' τ' σ ah2 (t_bill σ (sx (nI i + 1).toNatClampNeg) (sx (nI i + 2).toNatClampNeg) (sx (nI i + 3).toNatClampNeg)) (j + 1) := ⟨g3, hI, hN, l1, by omega⟩
  show xW _ _ _ _
  by_cases ht : t_bill σ (sx (nI i + 1).toNatClampNeg) (sx (nI i + 2).toNatClampNeg) (sx (nI i + 3).toNatClampNeg) = 0
  · obtain ⟨f, hf, hf0⟩ := o1 ht
    rw [← tcN0] at hf0
    have hf2 : ah2 o = some (.inl (3, 1, .inr (.inl f))) := (r2.2.2.2.2 o c1.2.2.2.2.2.1 (fun c hc q => (c1.2.2.2.2.2.2.2.2 c hc).1 q.symm)).trans hf
    have fo : xal ah2 o = some (1, f) := xal_of hf2
    have tz : nI (t_bill σ (sx (nI i + 1).toNatClampNeg) (sx (nI i + 2).toNatClampNeg) (sx (nI i + 3).toNatClampNeg)) = 0 := by rw [ht]; rfl
    simp (disch := omega) only [e217_2073, e217_2075, e217_2075n, e217_2076, e217_2079, e217_2081, e217_2084, e217_2085, e217_2086, e217_2088, e217_2091, e217_2091n, e217_2092, e217_2093, e217_2094, e217_2096, e217_2097, e217_2098, e217_2101, e217_2102, e217_2103, xKv, xK0, xKx, xKHv, xKH0, xk_none, xk_i, xk_f, xk_l, xk_r, xk_n, xc_i, xc_f, xc_l, xc_d, xc_r, xc_n, xo_some, List.map_cons, List.map_nil, List.sum_cons, List.sum_nil, xnzn, xpn0, xpn1, xpnb, xpnn, i10, i00, true_imp_iff, false_imp_iff, not_true_eq_false, not_false_eq_true, true_and, and_true, implies_true, xnz0, xnz1, xnzb, xfz0, xfz1, xfzb, Option.isSome_some, if_true, if_false, xbF, xbT, and_false, false_and, Nat.zero_le, Nat.reduceEqDiff, Nat.reduceLeDiff, Nat.reduceAdd, Nat.reduceSub, xiT, xiF, g3.1.is, en92, e92_0, e92_0n, e92_1, e92_4, th3, eq_self, tz, fo, vp01, hf0, lg_cmp_eq]
    exact hx _ _ _ _ hG (by omega) (by omega)
  · have tz : (nI (t_bill σ (sx (nI i + 1).toNatClampNeg) (sx (nI i + 2).toNatClampNeg) (sx (nI i + 3).toNatClampNeg)) = 0) = False := by rw [nI_z tb]; exact eq_false ht
    simp (disch := omega) only [e217_2073, e217_2075, e217_2075n, e217_2076, e217_2079, e217_2081, e217_2084, e217_2085, e217_2086, e217_2088, e217_2091, e217_2091n, e217_2092, e217_2093, e217_2094, e217_2096, e217_2097, e217_2098, e217_2101, e217_2102, e217_2103, xKv, xK0, xKx, xKHv, xKH0, xk_none, xk_i, xk_f, xk_l, xk_r, xk_n, xc_i, xc_f, xc_l, xc_d, xc_r, xc_n, xo_some, List.map_cons, List.map_nil, List.sum_cons, List.sum_nil, xnzn, xpn0, xpn1, xpnb, xpnn, i10, i00, true_imp_iff, false_imp_iff, not_true_eq_false, not_false_eq_true, true_and, and_true, implies_true, xnz0, xnz1, xnzb, xfz0, xfz1, xfzb, Option.isSome_some, if_true, if_false, xbF, xbT, and_false, false_and, Nat.zero_le, Nat.reduceEqDiff, Nat.reduceLeDiff, Nat.reduceAdd, Nat.reduceSub, xiT, xiF, g3.1.is, en92, e92_0, e92_0n, e92_1, e92_4, th3, eq_self, tz]
    exact hx _ _ _ _ hG (by omega) (by omega)
end
