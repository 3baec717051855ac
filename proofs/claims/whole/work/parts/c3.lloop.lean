/-! the law's loop and its start (printed by wip/gen/gen55.py) -/
theorem law_goes {P : Nat → Prop} (x : Int32) (h0 : P 160) (h1 : P 228) (h2 : P 276) (h3 : P 344) (h4 : P 419) (h5 : P 523) (h6 : P 603) (h7 : P 671) (h8 : P 727) (h9 : P 819) (h10 : P 887) (h11 : P 979) (h12 : P 1035) (h13 : P 1103) (h14 : P 1193) (h15 : P 1261) (h16 : P 1351) (h17 : P 1431) (h18 : P 1499) (h19 : P 1587) (h20 : P 1727) (h21 : P 1795) (h22 : P 1851) (h23 : P 1969) (h24 : P 2026) (hd : P 2106) : P (xtg 45 2061 0 24 [115, 183, 231, 299, 374, 478, 558, 626, 682, 774, 842, 934, 990, 1058, 1148, 1216, 1306, 1386, 1454, 1542, 1682, 1750, 1806, 1924, 1981] x) := by
  unfold xtg
  by_cases h : x.toInt < 0 ∨ 24 < x.toInt
  · rw [if_pos h]
    exact hd
  · rw [if_neg h]
    have e : (x.toInt - 0).toNat < 25 := by omega
    generalize (x.toInt - 0).toNat = q at e
    have : q = 0 ∨ q = 1 ∨ q = 2 ∨ q = 3 ∨ q = 4 ∨ q = 5 ∨ q = 6 ∨ q = 7 ∨ q = 8 ∨ q = 9 ∨ q = 10 ∨ q = 11 ∨ q = 12 ∨ q = 13 ∨ q = 14 ∨ q = 15 ∨ q = 16 ∨ q = 17 ∨ q = 18 ∨ q = 19 ∨ q = 20 ∨ q = 21 ∨ q = 22 ∨ q = 23 ∨ q = 24 := by omega
    rcases this with rfl | rfl | rfl | rfl | rfl | rfl | rfl | rfl | rfl | rfl | rfl | rfl | rfl | rfl | rfl | rfl | rfl | rfl | rfl | rfl | rfl | rfl | rfl | rfl | rfl
    · exact h0
    · exact h1
    · exact h2
    · exact h3
    · exact h4
    · exact h5
    · exact h6
    · exact h7
    · exact h8
    · exact h9
    · exact h10
    · exact h11
    · exact h12
    · exact h13
    · exact h14
    · exact h15
    · exact h16
    · exact h17
    · exact h18
    · exact h19
    · exact h20
    · exact h21
    · exact h22
    · exact h23
    · exact h24
theorem vpc {i c N : Nat} (h : i + c < N) (hN : N ≤ 3584) : vp_in (nI i + nI c) N = True := by
  rw [nI_add]
  exact xin_nI h (by omega)
theorem lawend {i N : Nat} (hi : i ≤ 4000) (hN : N ≤ 3584) : (Int32.ofNat N - 7 < nI i) = (N < i + 7) := by
  have e : Int32.ofNat N - 7 = Int32.ofInt ((N : Int) - 7) := by
    rw [Int32.ofInt_sub, Int32.ofInt_eq_ofNat]
    rfl
  have e2 : nI i = Int32.ofInt (i : Int) := Int32.ofInt_eq_ofNat.symm
  rw [e, e2]
  refine propext ?_
  rw [Int32.lt_iff_toInt_lt, Int32.toInt_ofInt_of_le (by omega) (by omega), Int32.toInt_ofInt_of_le (by omega) (by omega)]
  omega
theorem MR.cg {ad : Nat → Nat} {m : Nat} {ah0 ah : xH} {σ σ2 : xS} {th : Nat} (h : MR ad m ah0 ah σ th) (e1 : ∀ c ∈ mScal, σ2 c 0 = σ c 0) (e2 : ∀ c ∈ mArrs, ∀ i, i < mLen c → σ2 c i = σ c i) : MR ad m ah0 ah σ2 th := by
  obtain ⟨h1, h2, h3, h4, h5⟩ := h
  refine ⟨h1, fun c hc => by rw [e1 c hc]; exact h2 c hc, fun c hc => ?_, h4, h5⟩
  obtain ⟨q1, f, q2, q3⟩ := h3 c hc
  exact ⟨q1, f, q2, fun i hi => by rw [e2 c hc i hi]; exact q3 i hi⟩
theorem CR.grow {κ : Nat → Nat} {A σ τ : xS} {h0 ah ah' : xH} {P : Nat → Prop} (h : CR κ A σ τ h0 ah) (hm : ∀ a e, ah a = some e → ah' a = some e) (hP : ∀ a, P a → ah a = none) : CR κ A σ τ (msk P ah') ah' := by
  refine ⟨⟨fun k j hu => hm _ _ (h.1.1 k j hu), h.1.2.1, fun a e ha => ?_⟩, h.2⟩
  unfold msk at ha
  by_cases hp : P a
  · rw [xi_t hp] at ha
    refine ⟨ha, fun k j hu q => ?_⟩
    have h1 := h.1.1 k j hu
    rw [← q, hP a hp] at h1
    cases h1
  · rw [xi_f hp] at ha
    cases ha
section
variable {κ ad : Nat → Nat} {m o d x i j k n th sb sL : Nat} {sx : Nat → Int32} {A τ σ : xS} {ah : xH} {R : xR → xH → Prop} {a6 a7 : Option Value}
theorem law_round (hK : KI κ) (hS : KS κ) (g : GI κ ad m o d x A τ σ ah th j) (hj : j < 512) (hk : 60 ≤ k) (hn : 8000 ≤ n) (hi : i + 7 ≤ sL) (hL : sL ≤ 3584) (hX : LX κ ad sb sL sx R m o d x i j k n) : xW (TL κ sb sL sx) (xm κ) R (38, [some (.ref sb), some (.ref x), some (.ref m), some (.ref o), some (.ref d), some (.int (nI i)), a6, a7], [], ah, k, n) := by
  have v0 : vp_in (nI i) sL = True := xin_nI (by omega) (by omega)
  have v1 : vp_in (nI i + 1) sL = True := vpc (c := 1) (by omega) hL
  have v2 : vp_in (nI i + 2) sL = True := vpc (c := 2) (by omega) hL
  have v3 : vp_in (nI i + 3) sL = True := vpc (c := 3) (by omega) hL
  have v4 : vp_in (nI i + 4) sL = True := vpc (c := 4) (by omega) hL
  have v5 : vp_in (nI i + 5) sL = True := vpc (c := 5) (by omega) hL
  have v6 : vp_in (nI i + 6) sL = True := vpc (c := 6) (by omega) hL
  simp (disch := omega) only [e217_38, e217_38n, e217_39, e217_41, e217_42, e217_44, e217_45, xKv, xK0, xKx, xKHv, xKH0, xk_none, xk_i, xk_f, xk_l, xk_r, xk_n, xc_i, xc_f, xc_l, xc_d, xc_r, xc_n, xo_some, List.map_cons, List.map_nil, List.sum_cons, List.sum_nil, xnzn, xpn0, xpn1, xpnb, xpnn, i10, i00, true_imp_iff, false_imp_iff, not_true_eq_false, not_false_eq_true, true_and, and_true, implies_true, xnz0, xnz1, xnzb, xfz0, xfz1, xfzb, Option.isSome_some, if_true, if_false, xbF, xbT, and_false, false_and, Nat.zero_le, Nat.reduceEqDiff, Nat.reduceLeDiff, Nat.reduceAdd, Nat.reduceSub, xiT, xiF, v0, eq_self]
  refine law_goes (P := fun p => xW (TL κ sb sL sx) (xm κ) R (p, [some (.ref sb), some (.ref x), some (.ref m), some (.ref o), some (.ref d), some (.int (nI i)), a6, a7], [], ah, k, n)) _ (rd_wall hK hS g hj hk hn v1 v2 v3 v4 v5 v6 hX) (rd_weather hK hS g hj hk hn v1 v2 v3 v4 v5 v6 hX) (rd_damp hK hS g hj hk hn v1 v2 v3 v4 v5 v6 hX) (rd_joint hK hS g hj hk hn v1 v2 v3 v4 v5 v6 hX) (rd_coat hK hS g hj hk hn v1 v2 v3 v4 v5 v6 hX) (rd_scratch hK hS g hj hk hn v1 v2 v3 v4 v5 v6 hX) (rd_strike hK hS g hj hk hn v1 v2 v3 v4 v5 v6 hX) (rd_pass hK hS g hj hk hn v1 v2 v3 v4 v5 v6 hX) (rd_ofCoat hK hS g hj hk hn v1 v2 v3 v4 v5 v6 hX) (rd_coatsAnew hK hS g hj hk hn v1 v2 v3 v4 v5 v6 hX) (rd_text hK hS g hj hk hn v1 v2 v3 v4 v5 v6 hX) (rd_profile hK hS g hj hk hn v1 v2 v3 v4 v5 v6 hX) (rd_depth hK hS g hj hk hn v1 v2 v3 v4 v5 v6 hX) (rd_mitre hK hS g hj hk hn v1 v2 v3 v4 v5 v6 hX) (rd_fits hK hS g hj hk hn v1 v2 v3 v4 v5 v6 hX) (rd_step hK hS g hj hk hn v1 v2 v3 v4 v5 v6 hX) (rd_cut hK hS g hj hk hn v1 v2 v3 v4 v5 v6 hX) (rd_window hK hS g hj hk hn v1 v2 v3 v4 v5 v6 hX) (rd_patch hK hS g hj hk hn v1 v2 v3 v4 v5 v6 hX) (rd_paint hK hS g hj hk hn v1 v2 v3 v4 v5 v6 hX) (rd_ofCell hK hS g hj hk hn v1 v2 v3 v4 v5 v6 hX) (rd_over hK hS g hj hk hn v1 v2 v3 v4 v5 v6 hX) (rd_tells hK hS g hj hk hn v1 v2 v3 v4 v5 v6 hX) (rd_pins hK hS g hj hk hn v1 v2 v3 v4 v5 v6 hX) (rd_bill hK hS g hj hk hn v1 v2 v3 v4 v5 v6 hX) ?_
  exact hX A τ σ ah th k n a6 a7 ⟨g.1, g.2.1, g.2.2.1, g.2.2.2.1, by have := g.2.2.2.2; omega⟩ (by omega) (by omega)
theorem lp_law (hK : KI κ) (hS : KS κ) (hL : sL ≤ 3584) (hR : ∀ ah, R (.inl (some (.int 1))) ah) : ∀ (r j k n th : Nat) (A τ σ : xS) (ah : xH) (a6 a7 : Option Value), r + j = sL / 7 → 60 * r ≤ k → 8000 * r ≤ n → GI κ ad m o d x A τ σ ah th j →
    xW (TL κ sb sL sx) (xm κ) R (28, [some (.ref sb), some (.ref x), some (.ref m), some (.ref o), some (.ref d), some (.int (nI (7 * j))), a6, a7], [], ah, k, n) := by
  intro r
  induction r with
  | zero =>
    intro j k n th A τ σ ah a6 a7 hr hk hn g
    have e : (sL < 7 * j + 7) = True := eq_true (by omega)
    rw [e217_28]
    simp (disch := omega) only [e217_30, e217_30n, e217_31, e217_32, e217_34, e217_35, e217_2112, e217_2113, xKv, xK0, xKx, xKHv, xKH0, xk_none, xk_i, xk_f, xk_l, xk_r, xk_n, xc_i, xc_f, xc_l, xc_d, xc_r, xc_n, xo_some, List.map_cons, List.map_nil, List.sum_cons, List.sum_nil, xnzn, xpn0, xpn1, xpnb, xpnn, i10, i00, true_imp_iff, false_imp_iff, not_true_eq_false, not_false_eq_true, true_and, and_true, implies_true, xnz0, xnz1, xnzb, xfz0, xfz1, xfzb, Option.isSome_some, if_true, if_false, xbF, xbT, and_false, false_and, Nat.zero_le, Nat.reduceEqDiff, Nat.reduceLeDiff, Nat.reduceAdd, Nat.reduceSub, xiT, xiF, eq_self, lawend, e]
    exact hR ah
  | succ r ih =>
    intro j k n th A τ σ ah a6 a7 hr hk hn g
    have e : (sL < 7 * j + 7) = False := eq_false (by omega)
    rw [e217_28]
    simp (disch := omega) only [e217_30, e217_30n, e217_31, e217_32, e217_34, e217_35, xKv, xK0, xKx, xKHv, xKH0, xk_none, xk_i, xk_f, xk_l, xk_r, xk_n, xc_i, xc_f, xc_l, xc_d, xc_r, xc_n, xo_some, List.map_cons, List.map_nil, List.sum_cons, List.sum_nil, xnzn, xpn0, xpn1, xpnb, xpnn, i10, i00, true_imp_iff, false_imp_iff, not_true_eq_false, not_false_eq_true, true_and, and_true, implies_true, xnz0, xnz1, xnzb, xfz0, xfz1, xfzb, Option.isSome_some, if_true, if_false, xbF, xbT, and_false, false_and, Nat.zero_le, Nat.reduceEqDiff, Nat.reduceLeDiff, Nat.reduceAdd, Nat.reduceSub, xiT, xiF, eq_self, lawend, e]
    refine law_round hK hS g (by omega) (by omega) (by omega) (by omega) hL (fun A τ σ ah th k' n' b6 b7 g2 h1 h2 => ?_)
    have st := ih (j + 1) k' n' th A τ σ ah b6 b7 (by omega) (by omega) (by omega) g2
    have e7 : nI (7 * j) + 7 = nI (7 * (j + 1)) := nI_add (a := 7 * j) (b := 7)
    rw [e217_2106, e7, e217_2109]
    exact st
/-- the state at the start -/
def s1 : xS := fun c i => if c = 22 ∨ c = 23 then 0 else s00 c i
theorem s1_o (c i : Nat) (h : ¬ (c = 22 ∨ c = 23)) : s1 c i = s00 c i := if_neg h
theorem s1_2 (i : Nat) (_ : i < 48) : s1 22 i = 0 ∧ s1 23 i = 0 := ⟨rfl, rfl⟩
theorem law_all (hK : KI κ) (hS : KS κ) (hL : sL ≤ 3584) (hR : ∀ ah, R (.inl (some (.int 1))) ah) : xW (TL κ sb sL sx) (xm κ) R (0, [some (.ref sb), none, none, none, none, none, none, none], [], (fun _ => none), 500000, 6000000) := by
  rw [e217_0]
  refine ⟨by decide, by decide, fun x hx => ?_⟩
  rw [e217_3, e217_4]
  refine ⟨⟨show (1 + 0 : Nat) ≤ 8 from by decide, trivial, by decide, by decide⟩, sp_c_init (h0 := fun _ => none) (σ := s1) (xup_self _ _ _) (fun b o hb => nomatch hb) s1_o s1_2 (fun A ah1 c1 l1 e1 => ?_)⟩
  show xW _ _ _ _
  simp (disch := omega) only [e217_7, e217_7n, xKv, xK0, xKx, xKHv, xKH0, xk_none, xk_i, xk_f, xk_l, xk_r, xk_n, xc_i, xc_f, xc_l, xc_d, xc_r, xc_n, xo_some, List.map_cons, List.map_nil, List.sum_cons, List.sum_nil, xnzn, xpn0, xpn1, xpnb, xpnn, i10, i00, true_imp_iff, false_imp_iff, not_true_eq_false, not_false_eq_true, true_and, and_true, implies_true, xnz0, xnz1, xnzb, xfz0, xfz1, xfzb, Option.isSome_some, if_true, if_false, xbF, xbT, and_false, false_and, Nat.zero_le, Nat.reduceEqDiff, Nat.reduceLeDiff, Nat.reduceAdd, Nat.reduceSub, xiT, xiF]
  rw [e217_8]
  refine ⟨by decide, by decide, fun m hm => ?_⟩
  rw [e217_11, e217_12]
  refine ⟨⟨show (1 + 0 : Nat) ≤ 8 from by decide, trivial, by decide, by decide⟩, sp_m_init (xup_self _ _ _) (fun ad ah2 σ' r2 q1 q2 q3 => ?_)⟩
  have r3 : MR ad m _ ah2 s1 0 := r2.cg (fun c hc => by rw [s1_o c 0 ((show ∀ c ∈ mScal, ¬ (c = 22 ∨ c = 23) from by decide) c hc), q2 c 0 ((show ∀ c ∈ mScal, ¬ (c = 22 ∨ c = 23) from by decide) c hc)]) (fun c hc i hi => by
    by_cases e : c = 22 ∨ c = 23
    · have hi' : i < 48 := by rcases e with rfl | rfl <;> exact hi
      rcases e with rfl | rfl
      · rw [(q3 i hi').1]; rfl
      · rw [(q3 i hi').2]; rfl
    · rw [s1_o c i e, q2 c i e])
  show xW _ _ _ _
  simp (disch := omega) only [e217_15, e217_15n, e217_16, xKv, xK0, xKx, xKHv, xKH0, xk_none, xk_i, xk_f, xk_l, xk_r, xk_n, xc_i, xc_f, xc_l, xc_d, xc_r, xc_n, xo_some, List.map_cons, List.map_nil, List.sum_cons, List.sum_nil, xnzn, xpn0, xpn1, xpnb, xpnn, i10, i00, true_imp_iff, false_imp_iff, not_true_eq_false, not_false_eq_true, true_and, and_true, implies_true, xnz0, xnz1, xnzb, xfz0, xfz1, xfzb, Option.isSome_some, if_true, if_false, xbF, xbT, and_false, false_and, Nat.zero_le, Nat.reduceEqDiff, Nat.reduceLeDiff, Nat.reduceAdd, Nat.reduceSub, xiT, xiF]
  rw [e217_17]
  refine ⟨by decide, by decide, by decide, fun o ho => ?_⟩
  simp (disch := omega) only [e217_19, e217_19n, e217_20, xKv, xK0, xKx, xKHv, xKH0, xk_none, xk_i, xk_f, xk_l, xk_r, xk_n, xc_i, xc_f, xc_l, xc_d, xc_r, xc_n, xo_some, List.map_cons, List.map_nil, List.sum_cons, List.sum_nil, xnzn, xpn0, xpn1, xpnb, xpnn, i10, i00, true_imp_iff, false_imp_iff, not_true_eq_false, not_false_eq_true, true_and, and_true, implies_true, xnz0, xnz1, xnzb, xfz0, xfz1, xfzb, Option.isSome_some, if_true, if_false, xbF, xbT, and_false, false_and, Nat.zero_le, Nat.reduceEqDiff, Nat.reduceLeDiff, Nat.reduceAdd, Nat.reduceSub, xiT, xiF]
  rw [e217_21]
  refine ⟨by decide, by decide, by decide, fun d hd => ?_⟩
  simp (disch := omega) only [e217_23, e217_23n, e217_25, e217_26, xKv, xK0, xKx, xKHv, xKH0, xk_none, xk_i, xk_f, xk_l, xk_r, xk_n, xc_i, xc_f, xc_l, xc_d, xc_r, xc_n, xo_some, List.map_cons, List.map_nil, List.sum_cons, List.sum_nil, xnzn, xpn0, xpn1, xpnb, xpnn, i10, i00, true_imp_iff, false_imp_iff, not_true_eq_false, not_false_eq_true, true_and, and_true, implies_true, xnz0, xnz1, xnzb, xfz0, xfz1, xfzb, Option.isSome_some, if_true, if_false, xbF, xbT, and_false, false_and, Nat.zero_le, Nat.reduceEqDiff, Nat.reduceLeDiff, Nat.reduceAdd, Nat.reduceSub, xiT, xiF]
  have t1 : (1 : Int32).toNatClampNeg = 1 := by decide
  rw [t1] at hd
  simp only [t1]
  have frame := r3.2.2.2.2
  have had : ∀ c, c ∈ mArrs → ah1 (ad c) = none := fun c hc => by
    have := (q1 c hc).1
    rw [xup_ne _ _ (q1 c hc).2] at this
    exact this
  have hgr : ∀ a e, ah1 a = some e → ah2 a = some e := fun a e ha => by
    have n1 : a ≠ m := xis_ne ha hm
    rw [frame a n1 (fun c hc => xis_ne ha (had c hc) |> fun q => q), xup_ne _ _ n1]
    exact ha
  have hod : o ≠ d := xis_ne (xup_self ah2 o (.inl (3, 1, .inr (.inl fun _ => 0)))) hd
  have hd2 : ah2 d = none := by rw [xup_ne _ _ (fun q => hod q.symm)] at hd; exact hd
  have nn : ∀ a, (a = m ∨ ∃ c, c ∈ mArrs ∧ a = ad c) → a ≠ o ∧ a ≠ d := fun a ha => by
    obtain ⟨e, he⟩ := r3.som ha
    exact ⟨xis_ne he ho, xis_ne he hd2⟩
  have hgo : ∀ a e, ah2 a = some e → a ≠ o ∧ a ≠ d := fun a e he => ⟨xis_ne he ho, xis_ne he hd2⟩
  refine lp_law hK hS hL hR (sL / 7) 0 _ _ 0 A (fun _ _ => 0) s1 _ none none rfl (by omega) (by omega) ⟨⟨r3.tr (fun a ha => ?_), c1.grow (fun a e ha => ?_) (fun a ha => ?_), e1, ⟨_, by rw [xup_ne _ _ hod, xup_self]⟩, ⟨_, xup_self _ _ _⟩, fun q => (nn m (Or.inl rfl)).1 q.symm, fun q => (nn m (Or.inl rfl)).2 q.symm, hod, fun c hc => nn (ad c) (Or.inr ⟨c, hc, rfl⟩)⟩, MI_init s1_o s1_2, NJ_init s1_o, l1, Nat.zero_le _⟩
  · rw [xup_ne _ _ (nn a ha).2, xup_ne _ _ (nn a ha).1]
  · have h2 := hgr a e ha
    rw [xup_ne _ _ (hgo a e h2).2, xup_ne _ _ (hgo a e h2).1]
    exact h2
  · have hno : ∀ a, ah2 a = none → ah1 a = none := fun a h2 => by
      cases h : ah1 a with
      | none => rfl
      | some e => rw [hgr a e h] at h2; cases h2
    rcases ha with rfl | ⟨c, hc, rfl⟩ | rfl | rfl
    · exact hm
    · exact had c hc
    · exact hno _ ho
    · exact hno _ hd2
end
