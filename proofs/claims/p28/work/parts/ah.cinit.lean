/-! the class: a new object -/
def up2 (P : Nat → Option (Nat × xO)) (k a : Nat) (o : xO) : Nat → Option (Nat × xO) := fun k' => if k' = k then some (a, o) else P k'
theorem up2_eq {P : Nat → Option (Nat × xO)} {k a : Nat} {o : xO} : up2 P k a o k = some (a, o) := if_pos rfl
theorem up2_ne {P : Nat → Option (Nat × xO)} {k a k' : Nat} {o : xO} (h : k' ≠ k) : up2 P k a o k' = P k' := if_neg h
def NW (P : Nat → Option (Nat × xO)) (h0 ah : xH) : Prop := (∀ k a o, P k = some (a, o) → ah a = some o) ∧ (∀ k k' a o o', P k = some (a, o) → P k' = some (a, o') → k = k') ∧ (∀ b o, h0 b = some o → ah b = some o ∧ ∀ k a o', P k = some (a, o') → b ≠ a)
section
variable {κ : Nat → Nat} {R : xR → xH → Prop} {P : Nat → Option (Nat × xO)} {h0 ah : xH}
theorem NW.at (h : NW P h0 ah) {k a : Nat} {o : xO} (hP : P k = some (a, o)) : ah a = some o := h.1 k a o hP
theorem NW.nw (h : NW P h0 ah) {x k : Nat} (hx : ah x = none) (hk : P k = none) (o : xO) : NW (up2 P k x o) h0 (xup ah x o) := by
  obtain ⟨h1, h2, h3⟩ := h
  have hne : ∀ k' a o', P k' = some (a, o') → a ≠ x := fun k' a o' q e => by
    have := h1 k' a o' q
    rw [e, hx] at this
    cases this
  refine ⟨fun k' a o' q => ?_, fun k1 k2 a o1 o2 q1 q2 => ?_, fun b o' hb => ⟨?_, fun k' a o2 q => ?_⟩⟩
  · unfold up2 at q
    by_cases e : k' = k
    · rw [if_pos e] at q
      cases q
      exact xup_self _ _ _
    · rw [if_neg e] at q
      rw [xup_ne _ _ (hne k' a o' q)]
      exact h1 k' a o' q
  · unfold up2 at q1 q2
    by_cases e1 : k1 = k <;> by_cases e2 : k2 = k
    · exact e1.trans e2.symm
    · rw [if_pos e1] at q1
      rw [if_neg e2] at q2
      cases q1
      exact absurd rfl (hne _ _ _ q2)
    · rw [if_neg e1] at q1
      rw [if_pos e2] at q2
      cases q2
      exact absurd rfl (hne _ _ _ q1)
    · rw [if_neg e1] at q1
      rw [if_neg e2] at q2
      exact h2 _ _ _ _ _ q1 q2
  · have : b ≠ x := fun e => by
      have := (h3 b o' hb).1
      rw [e, hx] at this
      cases this
    rw [xup_ne _ _ this]
    exact (h3 b o' hb).1
  · unfold up2 at q
    by_cases e : k' = k
    · rw [if_pos e] at q
      cases q
      intro e'
      have := (h3 b o' hb).1
      rw [e', hx] at this
      cases this
    · rw [if_neg e] at q
      exact (h3 b o' hb).2 _ _ _ q
theorem NW.wr (h : NW P h0 ah) {x k : Nat} {o0 : xO} (hk : P k = some (x, o0)) (o : xO) : NW (up2 P k x o) h0 (xup ah x o) := by
  obtain ⟨h1, h2, h3⟩ := h
  refine ⟨fun k' a o' q => ?_, fun k1 k2 a o1 o2 q1 q2 => ?_, fun b o' hb => ⟨?_, fun k' a o2 q => ?_⟩⟩
  · unfold up2 at q
    by_cases e : k' = k
    · rw [if_pos e] at q
      cases q
      exact xup_self _ _ _
    · rw [if_neg e] at q
      rw [xup_ne _ _ (fun e' => e (h2 k' k x o' o0 (by rw [← e']; exact q) hk))]
      exact h1 k' a o' q
  · unfold up2 at q1 q2
    by_cases e1 : k1 = k <;> by_cases e2 : k2 = k
    · exact e1.trans e2.symm
    · rw [if_pos e1] at q1
      rw [if_neg e2] at q2
      cases q1
      exact absurd (h2 _ _ _ _ _ q2 hk) e2
    · rw [if_neg e1] at q1
      rw [if_pos e2] at q2
      cases q2
      exact absurd (h2 _ _ _ _ _ q1 hk) e1
    · rw [if_neg e1] at q1
      rw [if_neg e2] at q2
      exact h2 _ _ _ _ _ q1 q2
  · rw [xup_ne _ _ ((h3 b o' hb).2 _ _ _ hk)]
    exact (h3 b o' hb).1
  · unfold up2 at q
    by_cases e : k' = k
    · rw [if_pos e] at q
      cases q
      exact (h3 b o' hb).2 _ _ _ hk
    · rw [if_neg e] at q
      exact (h3 b o' hb).2 _ _ _ q
theorem NW.put (h : NW P h0 ah) {x k kf : Nat} {ci : Nat} {fs : List Value} {v : Value} (hk : P k = some (x, .inr (ci, fs))) : NW (up2 P k x (.inr (ci, fs.set kf v))) h0 (xput ah x kf v) := by
  rw [xput_of (h.at hk)]
  exact h.wr hk _
theorem NW.list (h : NW P h0 ah) {k : Nat} (hk : P k = none) {l : Nat} (hl : ah l = none) : NW (up2 P k l (lcell 0 (κ 9) 0)) h0 (xup (xup ah l (.inr (1, [.int 0, .null, .int 0]))) l (lcell 0 (κ 9) 0)) := by
  rw [xup_xup]
  exact h.nw hl hk _
theorem up2_up2 {k a b : Nat} {o o' : xO} : up2 (up2 P k a o) k b o' = up2 P k b o' := by
  funext k'
  unfold up2
  by_cases e : k' = k
  · rw [if_pos e, if_pos e]
  · rw [if_neg e, if_neg e, if_neg e]
theorem up2_cm {k k' a b : Nat} {o o' : xO} (h : k ≠ k') : up2 (up2 P k a o) k' b o' = up2 (up2 P k' b o') k a o := by
  funext j
  unfold up2
  by_cases e : j = k'
  · rw [if_pos e, if_neg (fun q => h (q.symm.trans e)), if_pos e]
  · rw [if_neg e]
    by_cases e' : j = k
    · rw [if_pos e', if_pos e']
    · rw [if_neg e', if_neg e', if_neg e]
theorem sp_logInit {g : Nat} (h : NW P h0 ah) (hk : P 3 = some (g, .inr (5, [.null]))) (h4 : P 4 = none) (hR : ∀ l ah', NW (up2 (up2 P 4 l (lcell 0 (κ 9) 0)) 3 g (.inr (5, [.ref l]))) h0 ah' → R (.inl none) ah') : xm κ 21 [.ref g] ah R := by
  rw [en21]
  simp (disch := omega) only [e21_0, e21_0n, e21_1, e21_4, e21_4n, xKv, xK0, xKx, xKHv, xKH0, xk_none, xk_i, xk_f, xk_l, xk_r, xk_n, xc_i, xc_f, xc_l, xc_d, xc_r, xc_n, xo_some, List.map_cons, List.map_nil, List.sum_cons, List.sum_nil, xnzn, xpn0, xpn1, xpnb, xpnn, i10, i00, true_imp_iff, false_imp_iff, not_true_eq_false, not_false_eq_true, true_and, and_true, implies_true, xnz0, xnz1, xnzb, xfz0, xfz1, xfzb, Option.isSome_some, if_true, if_false, xbF, xbT, and_false, false_and, Nat.zero_le, Nat.reduceEqDiff, Nat.reduceLeDiff, Nat.reduceAdd, Nat.reduceSub, xiT, xiF]
  rw [e21_5]
  refine ⟨by decide, by decide, fun l hl => ?_⟩
  rw [e21_8, e21_9]
  refine ⟨⟨show (1 + (1 + 0) : Nat) ≤ 8 from by decide, trivial⟩, (sp_listInit (xup_self _ _ _)).mpr ?_⟩
  have n1 := h.list (κ := κ) h4 hl
  have hg : up2 P 4 l (lcell 0 (κ 9) 0) 3 = some (g, .inr (5, [.null])) := (up2_ne (by decide)).trans hk
  have n2 := n1.put (kf := 0) (v := .ref l) hg
  show xW _ _ _ _
  rw [e21_12]
  refine ⟨by rw [xfld_of (n1.at hg)]; rfl, ?_⟩
  rw [e21_15]
  exact hR l _ n2
theorem lp_freInit {f l w p k' n' : Nat} (h8 : P 8 = some (f, .inr (4, [.ref l, .ref w, .ref p, .long 0]))) (hR : ∀ ah', NW (up2 P 12 p (.inl (0, 48, .inl (fun j => if j < 48 then -1 else 0)))) h0 ah' → R (.inl none) ah') : ∀ (n i : Nat) (ah : xH), i + n = 48 → NW (up2 P 12 p (.inl (0, 48, .inl (fun j => if j < i then -1 else 0)))) h0 ah →
    xW (T8 κ) (xm κ) R (33, [some (.ref f), some (.int (nI i))], [], ah, k', n') := by
  intro n
  induction n with
  | zero =>
    intro i ah hi h
    have hi' : i = 48 := by omega
    subst hi'
    have f0 : xfld ah f 4 2 = some (.ref p) := xfld_of (h.at (k := 8) ((up2_ne (by decide)).trans h8))
    have hp := h.at (k := 12) up2_eq
    have fl := xalen_i hp (by decide)
    have e48 : Int32.ofNat 48 = nI 48 := rfl
    rw [e8_33]
    simp (disch := omega) only [e8_34, e8_34n, e8_35, e8_38, e8_39, e8_42, e8_42n, e8_43, e8_46, e8_47, e8_48, e8_49, e8_52, e8_55, xKv, xK0, xKx, xKHv, xKH0, xk_none, xk_i, xk_f, xk_l, xk_r, xk_n, xc_i, xc_f, xc_l, xc_d, xc_r, xc_n, xo_some, List.map_cons, List.map_nil, List.sum_cons, List.sum_nil, xnzn, xpn0, xpn1, xpnb, xpnn, i10, i00, true_imp_iff, false_imp_iff, not_true_eq_false, not_false_eq_true, true_and, and_true, implies_true, xnz0, xnz1, xnzb, xfz0, xfz1, xfzb, Option.isSome_some, if_true, if_false, xbF, xbT, and_false, false_and, Nat.zero_le, Nat.reduceEqDiff, Nat.reduceLeDiff, Nat.reduceAdd, Nat.reduceSub, xiT, xiF, pk_mul, nI_add, Nat.add_sub_cancel, lad0, leq0, lle0, lge0, llt0, lgt0, leq1, lle1, lge1, llt1, lgt1, lad1, lsu1, leq2, lle2, lge2, llt2, lgt2, lmu2, lmv2, lad2, lsu2, ldi2, leq3, lle3, lge3, llt3, lgt3, lmu3, lmv3, lad3, lsu3, ldi3, leq4, lle4, lge4, llt4, lgt4, lmu4, lmv4, lad4, lsu4, ldi4, leq5, lle5, lge5, llt5, lgt5, lmu5, lmv5, lad5, lsu5, ldi5, leq6, lle6, lge6, llt6, lgt6, lmu6, lmv6, lad6, lsu6, ldi6, leq8, lle8, lge8, llt8, lgt8, lmu8, lmv8, lad8, lsu8, ldi8, leq9, lle9, lge9, llt9, lgt9, lmu9, lmv9, lad9, lsu9, ldi9, leq10, lle10, lge10, llt10, lgt10, lmu10, lmv10, lad10, lsu10, ldi10, leq12, lle12, lge12, llt12, lgt12, lmu12, lmv12, lad12, lsu12, ldi12, leq20, lle20, lge20, llt20, lgt20, lmu20, lmv20, lad20, lsu20, ldi20, leq25, lle25, lge25, llt25, lgt25, lmu25, lmv25, lad25, lsu25, ldi25, leq30, lle30, lge30, llt30, lgt30, lmu30, lmv30, lad30, lsu30, ldi30, leq48, lle48, lge48, llt48, lgt48, lmu48, lmv48, lad48, lsu48, ldi48, leq50, lle50, lge50, llt50, lgt50, lmu50, lmv50, lad50, lsu50, ldi50, leq99, lle99, lge99, llt99, lgt99, lmu99, lmv99, lad99, lsu99, ldi99, leq100, lle100, lge100, llt100, lgt100, lmu100, lmv100, lad100, lsu100, ldi100, leq2000, lle2000, lge2000, llt2000, lgt2000, lmu2000, lmv2000, lad2000, lsu2000, ldi2000, f0, fl, e48, xle, leT, Nat.le_refl]
    exact hR ah h
  | succ n ih =>
    intro i ah hi h
    have f0 : xfld ah f 4 2 = some (.ref p) := xfld_of (h.at (k := 8) ((up2_ne (by decide)).trans h8))
    have hp := h.at (k := 12) up2_eq
    have fl := xalen_i hp (by decide)
    have fa := xai_of hp
    have e48 : Int32.ofNat 48 = nI 48 := rfl
    have h2 := h.wr (k := 12) up2_eq (.inl (0, 48, .inl (upd (fun j => if j < i then -1 else 0) i (-1))))
    rw [up2_up2] at h2
    have ef : (upd (fun j => if j < i then (-1 : Int32) else 0) i (-1)) = fun j => if j < i + 1 then -1 else 0 := by
      funext j
      by_cases e : j = i
      · subst e; rw [pk_us, if_pos (by omega)]
      · rw [pk_un e]
        by_cases q : j < i
        · rw [if_pos q, if_pos (by omega)]
        · rw [if_neg q, if_neg (by omega)]
    rw [ef] at h2
    have st := ih (i + 1) _ (by omega) h2
    rw [e8_33]
    simp (disch := omega) only [e8_34, e8_34n, e8_35, e8_38, e8_39, e8_42, e8_42n, e8_43, e8_46, e8_47, e8_48, e8_49, e8_52, xKv, xK0, xKx, xKHv, xKH0, xk_none, xk_i, xk_f, xk_l, xk_r, xk_n, xc_i, xc_f, xc_l, xc_d, xc_r, xc_n, xo_some, List.map_cons, List.map_nil, List.sum_cons, List.sum_nil, xnzn, xpn0, xpn1, xpnb, xpnn, i10, i00, true_imp_iff, false_imp_iff, not_true_eq_false, not_false_eq_true, true_and, and_true, implies_true, xnz0, xnz1, xnzb, xfz0, xfz1, xfzb, Option.isSome_some, if_true, if_false, xbF, xbT, and_false, false_and, Nat.zero_le, Nat.reduceEqDiff, Nat.reduceLeDiff, Nat.reduceAdd, Nat.reduceSub, xiT, xiF, pk_mul, nI_add, Nat.add_sub_cancel, lad0, leq0, lle0, lge0, llt0, lgt0, leq1, lle1, lge1, llt1, lgt1, lad1, lsu1, leq2, lle2, lge2, llt2, lgt2, lmu2, lmv2, lad2, lsu2, ldi2, leq3, lle3, lge3, llt3, lgt3, lmu3, lmv3, lad3, lsu3, ldi3, leq4, lle4, lge4, llt4, lgt4, lmu4, lmv4, lad4, lsu4, ldi4, leq5, lle5, lge5, llt5, lgt5, lmu5, lmv5, lad5, lsu5, ldi5, leq6, lle6, lge6, llt6, lgt6, lmu6, lmv6, lad6, lsu6, ldi6, leq8, lle8, lge8, llt8, lgt8, lmu8, lmv8, lad8, lsu8, ldi8, leq9, lle9, lge9, llt9, lgt9, lmu9, lmv9, lad9, lsu9, ldi9, leq10, lle10, lge10, llt10, lgt10, lmu10, lmv10, lad10, lsu10, ldi10, leq12, lle12, lge12, llt12, lgt12, lmu12, lmv12, lad12, lsu12, ldi12, leq20, lle20, lge20, llt20, lgt20, lmu20, lmv20, lad20, lsu20, ldi20, leq25, lle25, lge25, llt25, lgt25, lmu25, lmv25, lad25, lsu25, ldi25, leq30, lle30, lge30, llt30, lgt30, lmu30, lmv30, lad30, lsu30, ldi30, leq48, lle48, lge48, llt48, lgt48, lmu48, lmv48, lad48, lsu48, ldi48, leq50, lle50, lge50, llt50, lgt50, lmu50, lmv50, lad50, lsu50, ldi50, leq99, lle99, lge99, llt99, lgt99, lmu99, lmv99, lad99, lsu99, ldi99, leq100, lle100, lge100, llt100, lgt100, lmu100, lmv100, lad100, lsu100, ldi100, leq2000, lle2000, lge2000, llt2000, lgt2000, lmu2000, lmv2000, lad2000, lsu2000, ldi2000, f0, fl, fa, e48, xle, leF, xin_nI, nI_cl, ef]
    exact st
theorem sp_freInit {f : Nat} (h : NW P h0 ah) (h8 : P 8 = some (f, .inr (4, [.null, .null, .null, .long 0]))) (h9 : P 9 = none) (h11 : P 11 = none) (h12 : P 12 = none)
    (hR : ∀ (P' : Nat → Option (Nat × xO)) l w p ah', NW P' h0 ah' → (∀ k, k ≠ 8 → k ≠ 9 → k ≠ 11 → k ≠ 12 → P' k = P k) → P' 8 = some (f, .inr (4, [.ref l, .ref w, .ref p, .long 0])) → P' 9 = some (l, lcell 0 (κ 9) 0) → P' 11 = some (w, .inl (0, 10, .inl (fun _ => 0))) → P' 12 = some (p, .inl (0, 48, .inl (fun j => if j < 48 then -1 else 0))) → R (.inl none) ah') : xm κ 8 [.ref f] ah R := by
  rw [en8]
  simp (disch := omega) only [e8_0, e8_0n, e8_1, e8_4, e8_4n, xKv, xK0, xKx, xKHv, xKH0, xk_none, xk_i, xk_f, xk_l, xk_r, xk_n, xc_i, xc_f, xc_l, xc_d, xc_r, xc_n, xo_some, List.map_cons, List.map_nil, List.sum_cons, List.sum_nil, xnzn, xpn0, xpn1, xpnb, xpnn, i10, i00, true_imp_iff, false_imp_iff, not_true_eq_false, not_false_eq_true, true_and, and_true, implies_true, xnz0, xnz1, xnzb, xfz0, xfz1, xfzb, Option.isSome_some, if_true, if_false, xbF, xbT, and_false, false_and, Nat.zero_le, Nat.reduceEqDiff, Nat.reduceLeDiff, Nat.reduceAdd, Nat.reduceSub, xiT, xiF]
  rw [e8_5]
  refine ⟨by decide, by decide, fun l hl => ?_⟩
  rw [e8_8, e8_9]
  refine ⟨⟨show (1 + (1 + 0) : Nat) ≤ 8 from by decide, trivial⟩, (sp_listInit (xup_self _ _ _)).mpr ?_⟩
  have n1 := h.list (κ := κ) h9 hl
  have p1 : up2 P 9 l (lcell 0 (κ 9) 0) 8 = some (f, .inr (4, [.null, .null, .null, .long 0])) := (up2_ne (by decide)).trans h8
  have n2 := n1.put (kf := 0) (v := .ref l) p1
  show xW _ _ _ _
  rw [e8_12]
  refine ⟨by rw [xfld_of (n1.at p1)]; rfl, ?_⟩
  rw [e8_15, e8_16, e8_18]
  refine ⟨by decide, by decide, by decide, fun w hw => ?_⟩
  have n3 := n2.nw (k := 11) hw ((up2_ne (by decide)).trans ((up2_ne (by decide)).trans h11)) (.inl (0, 10, .inl fun _ => 0))
  have p3 : up2 (up2 (up2 P 9 l (lcell 0 (κ 9) 0)) 8 f (.inr (4, [.ref l, .null, .null, .long 0]))) 11 w (.inl (0, 10, .inl fun _ => 0)) 8 = some (f, .inr (4, [.ref l, .null, .null, .long 0])) := (up2_ne (by decide)).trans up2_eq
  have n4 := n3.put (kf := 1) (v := .ref w) p3
  rw [e8_20]
  refine ⟨?_, ?_⟩
  · have := xfld_of (kf := 1) (n3.at p3)
    exact this ▸ rfl
  rw [e8_23, e8_24, e8_26]
  refine ⟨by decide, by decide, by decide, fun p hp => ?_⟩
  have n5 := n4.nw (k := 12) hp ((up2_ne (by decide)).trans ((up2_ne (by decide)).trans ((up2_ne (by decide)).trans ((up2_ne (by decide)).trans h12)))) (.inl (0, 48, .inl fun _ => 0))
  have p5 := (up2_ne (k := 12) (a := p) (o := (.inl (0, 48, .inl fun _ => 0) : xO)) (k' := 8) (by decide)).trans (up2_eq (P := up2 (up2 (up2 P 9 l (lcell 0 (κ 9) 0)) 8 f (.inr (4, [.ref l, .null, .null, .long 0]))) 11 w (.inl (0, 10, .inl fun _ => 0))) (k := 8) (a := f) (o := .inr (4, [.ref l, .ref w, .null, .long 0])))
  have n6 := n5.put (kf := 2) (v := .ref p) p5
  rw [e8_28]
  refine ⟨?_, ?_⟩
  · have := xfld_of (kf := 2) (n5.at p5)
    exact this ▸ rfl
  rw [e8_31, e8_32]
  rw [up2_cm (by decide)] at n6
  have e0 : (fun _ : Nat => (0 : Int32)) = fun j => if j < 0 then -1 else 0 := by
    funext j
    rw [if_neg (by omega)]
  refine lp_freInit up2_eq (fun ah' h' => ?_) 48 0 _ rfl (by rw [← e0]; exact n6)
  refine hR _ l w p ah' h' (fun k e8 e9 e11 e12 => ?_) ((up2_ne (by decide)).trans up2_eq) ?_ ?_ up2_eq
  · rw [up2_ne e12, up2_ne e8, up2_ne e8, up2_ne e11, up2_ne e8, up2_ne e9]
  · rw [up2_ne (by decide), up2_ne (by decide), up2_ne (by decide), up2_ne (by decide), up2_ne (by decide), up2_eq]
  · rw [up2_ne (by decide), up2_ne (by decide), up2_ne (by decide), up2_eq]
theorem NW.pt (h : NW P h0 ah) {q x ci : Nat} {fs : List Value} (hq : P q = some (x, .inr (ci, fs))) (kf : Nat) (v : Value) (hl : kf < fs.length) : (xfld ah x ci kf).isSome = true ∧ ∃ P', NW P' h0 (xput ah x kf v) ∧ P' q = some (x, .inr (ci, fs.set kf v)) ∧ (∀ j, j ≠ q → P' j = P j) := by
  refine ⟨?_, _, h.put (kf := kf) (v := v) hq, up2_eq, fun j hj => up2_ne hj⟩
  rw [xfld_of (h.at hq), List.getElem?_eq_getElem hl]
  rfl
theorem NW.nx (h : NW P h0 ah) {x k : Nat} (hx : ah x = none) (hk : P k = none) (o : xO) : ∃ P', NW P' h0 (xup ah x o) ∧ P' k = some (x, o) ∧ (∀ j, j ≠ k → P' j = P j) := ⟨_, h.nw hx hk o, up2_eq, fun j hj => up2_ne hj⟩
theorem sp_c_init {x : Nat} {σ : xS} (hx : ah x = some (.inr (10, [.null, .null, .null, .null, .int 0, .int 0, .int 0]))) (hk : ∀ b o, h0 b = some o → ah b = some o ∧ b ≠ x) (hs : ∀ c i, ¬ (c = 22 ∨ c = 23) → σ c i = s00 c i) (hs2 : ∀ i, i < 48 → σ 22 i = 0 ∧ σ 23 i = 0)
    (hR : ∀ (A : xS) ah', CR κ A σ (fun _ _ => 0) h0 ah' → LK σ (fun _ _ => 0) → A 0 0 = x → R (.inl none) ah') : xm κ 50 [.ref x] ah R := by
  have n0 : NW (up2 (fun _ => none) 0 x (.inr (10, [.null, .null, .null, .null, .int 0, .int 0, .int 0]))) h0 ah := by
    refine ⟨fun k a o q => ?_, fun k1 k2 a o1 o2 q1 q2 => ?_, fun b o hb => ⟨(hk b o hb).1, fun k a o' q => ?_⟩⟩
    · unfold up2 at q
      split at q <;> cases q
      exact hx
    · unfold up2 at q1 q2
      split at q1 <;> cases q1
      split at q2 <;> cases q2
      simp only [*]
    · unfold up2 at q
      split at q <;> cases q
      exact (hk b o hb).2
  rw [en50]
  simp (disch := omega) only [e50_0, e50_0n, e50_1, e50_4, e50_4n, xKv, xK0, xKx, xKHv, xKH0, xk_none, xk_i, xk_f, xk_l, xk_r, xk_n, xc_i, xc_f, xc_l, xc_d, xc_r, xc_n, xo_some, List.map_cons, List.map_nil, List.sum_cons, List.sum_nil, xnzn, xpn0, xpn1, xpnb, xpnn, i10, i00, true_imp_iff, false_imp_iff, not_true_eq_false, not_false_eq_true, true_and, and_true, implies_true, xnz0, xnz1, xnzb, xfz0, xfz1, xfzb, Option.isSome_some, if_true, if_false, xbF, xbT, and_false, false_and, Nat.zero_le, Nat.reduceEqDiff, Nat.reduceLeDiff, Nat.reduceAdd, Nat.reduceSub, xiT, xiF]
  rw [e50_5]
  refine ⟨by decide, by decide, fun l1 hl1 => ?_⟩
  rw [e50_8, e50_9]
  refine ⟨⟨show (1 + (1 + 0) : Nat) ≤ 8 from by decide, trivial⟩, (sp_listInit (xup_self _ _ _)).mpr ?_⟩
  rw [xup_xup]
  obtain ⟨P1, n1, a1, b1⟩ := n0.nx (k := 1) hl1 (up2_ne (by decide)) (lcell 0 (κ 9) 0)
  obtain ⟨s2, P2, n2, a2, b2⟩ := n1.pt (q := 0) ((b1 0 (by decide)).trans up2_eq) 0 (.ref l1) (by decide)
  have z2 : ∀ k, k ≠ 0 → k ≠ 1 → P2 k = none := fun k e0 e1 => by rw [b2 k e0, b1 k e1, up2_ne e0]
  have r2 : P2 1 = _ := (b2 1 (by decide)).trans a1
  show xW _ _ _ _
  rw [e50_12]
  refine ⟨s2, ?_⟩
  rw [e50_15, e50_16]
  refine ⟨by decide, by decide, fun g hg => ?_⟩
  obtain ⟨P3, n3, a3, b3⟩ := n2.nx (k := 3) hg (z2 3 (by decide) (by decide)) (.inr (5, [.null]))
  rw [e50_19, e50_20]
  refine ⟨⟨show (1 + (1 + 0) : Nat) ≤ 8 from by decide, trivial, by decide, by decide⟩, sp_logInit n3 a3 ((b3 4 (by decide)).trans (z2 4 (by decide) (by decide))) (fun l4 ah4 n4 => ?_)⟩
  obtain ⟨s5, P5, n5, a5, b5⟩ := n4.pt (q := 0) ((up2_ne (by decide)).trans ((up2_ne (by decide)).trans ((b3 0 (by decide)).trans a2))) 1 (.ref g) (show 1 < 7 from by decide)
  have z5 : ∀ k, k ≠ 0 → k ≠ 1 → k ≠ 3 → k ≠ 4 → P5 k = none := fun k e0 e1 e3 e4 => by rw [b5 k e0, up2_ne e3, up2_ne e4, b3 k e3]; exact z2 k e0 e1
  have r51 : P5 1 = _ := (b5 1 (by decide)).trans ((up2_ne (by decide)).trans ((up2_ne (by decide)).trans ((b3 1 (by decide)).trans r2)))
  have r53 : P5 3 = _ := (b5 3 (by decide)).trans up2_eq
  have r54 : P5 4 = _ := (b5 4 (by decide)).trans ((up2_ne (by decide)).trans up2_eq)
  show xW _ _ _ _
  rw [e50_23]
  refine ⟨s5, ?_⟩
  rw [e50_26, e50_27]
  refine ⟨by decide, by decide, fun l6 hl6 => ?_⟩
  rw [e50_30, e50_31]
  refine ⟨⟨show (1 + (1 + 0) : Nat) ≤ 8 from by decide, trivial⟩, (sp_listInit (xup_self _ _ _)).mpr ?_⟩
  rw [xup_xup]
  obtain ⟨P6, n6, a6, b6⟩ := n5.nx (k := 6) hl6 (z5 6 (by decide) (by decide) (by decide) (by decide)) (lcell 0 (κ 9) 0)
  obtain ⟨s7, P7, n7, a7, b7⟩ := n6.pt (q := 0) ((b6 0 (by decide)).trans a5) 2 (.ref l6) (show 2 < 7 from by decide)
  show xW _ _ _ _
  rw [e50_34]
  refine ⟨s7, ?_⟩
  rw [e50_37, e50_38]
  refine ⟨by decide, by decide, fun f hf => ?_⟩
  have z7 : ∀ k, k ≠ 0 → k ≠ 1 → k ≠ 3 → k ≠ 4 → k ≠ 6 → P7 k = none := fun k e0 e1 e3 e4 e6 => by rw [b7 k e0, b6 k e6]; exact z5 k e0 e1 e3 e4
  obtain ⟨P8, n8, a8, b8⟩ := n7.nx (k := 8) hf (z7 8 (by decide) (by decide) (by decide) (by decide) (by decide)) (.inr (4, [.null, .null, .null, .long 0]))
  have z8 : ∀ k, k = 9 ∨ k = 11 ∨ k = 12 → P8 k = none := fun k hk => by rw [b8 k (by omega)]; exact z7 k (by omega) (by omega) (by omega) (by omega) (by omega)
  rw [e50_41, e50_42]
  refine ⟨⟨show (1 + (1 + 0) : Nat) ≤ 8 from by decide, trivial, by decide, by decide⟩, sp_freInit n8 a8 (z8 9 (by decide)) (z8 11 (by decide)) (z8 12 (by decide)) (fun P9 l9 w p ah9 n9 b9 a98 a99 a911 a912 => ?_)⟩
  have bb : ∀ k, k ≠ 0 → k ≠ 6 → k ≠ 8 → k ≠ 9 → k ≠ 11 → k ≠ 12 → P9 k = P5 k := fun k e0 e6 e8 e9 e11 e12 => by rw [b9 k e8 e9 e11 e12, b8 k e8, b7 k e0, b6 k e6]
  obtain ⟨sA, PA, nA, aA, bA⟩ := n9.pt (q := 0) ((b9 0 (by decide) (by decide) (by decide) (by decide)).trans ((b8 0 (by decide)).trans a7)) 3 (.ref f) (show 3 < 7 from by decide)
  show xW _ _ _ _
  rw [e50_45]
  refine ⟨sA, ?_⟩
  obtain ⟨sB, PB, nB, aB, bB⟩ := nA.pt (q := 0) aA 4 (.int 0) (show 4 < 7 from by decide)
  obtain ⟨sC, PC, nC, aC, bC⟩ := nB.pt (q := 0) aB 5 (.int 10) (show 5 < 7 from by decide)
  obtain ⟨sD, PD, nD, aD, bD⟩ := nC.pt (q := 0) aC 6 (.int 0) (show 6 < 7 from by decide)
  rw [e50_48, e50_49, e50_50]
  refine ⟨sB, ?_⟩
  rw [e50_53, e50_54, e50_56]
  refine ⟨sC, ?_⟩
  rw [e50_59, e50_60, e50_61]
  refine ⟨sD, ?_⟩
  rw [e50_64]
  have q0 : PD 0 = some (x, .inr (10, [.ref l1, .ref g, .ref l6, .ref f, .int 0, .int 10, .int 0])) := aD
  have bD' : ∀ k, k ≠ 0 → PD k = P9 k := fun k e => by rw [bD k e, bC k e, bB k e, bA k e]
  have q1 : PD 1 = some (l1, lcell 0 (κ 9) 0) := (bD' 1 (by decide)).trans ((bb 1 (by decide) (by decide) (by decide) (by decide) (by decide) (by decide)).trans r51)
  have q3 : PD 3 = some (g, .inr (5, [.ref l4])) := (bD' 3 (by decide)).trans ((bb 3 (by decide) (by decide) (by decide) (by decide) (by decide) (by decide)).trans r53)
  have q4 : PD 4 = some (l4, lcell 0 (κ 9) 0) := (bD' 4 (by decide)).trans ((bb 4 (by decide) (by decide) (by decide) (by decide) (by decide) (by decide)).trans r54)
  have q6 : PD 6 = some (l6, lcell 0 (κ 9) 0) := (bD' 6 (by decide)).trans ((b9 6 (by decide) (by decide) (by decide) (by decide)).trans ((b8 6 (by decide)).trans ((b7 6 (by decide)).trans a6)))
  have q8 := (bD' 8 (by decide)).trans a98
  have q9 := (bD' 9 (by decide)).trans a99
  have q11 := (bD' 11 (by decide)).trans a911
  have q12 := (bD' 12 (by decide)).trans a912
  have e0 : σ 0 0 = 0 := hs 0 0 (by decide)
  have e1 : σ 1 0 = 10 := hs 1 0 (by decide)
  have e2 : σ 2 0 = 0 := hs 2 0 (by decide)
  have e3 : σ 3 0 = 0 := hs 3 0 (by decide)
  have e16 : σ 16 0 = 0 := hs 16 0 (by decide)
  have e20 : σ 20 0 = 0 := hs 20 0 (by decide)
  have nsv : ∀ a, ¬ sv σ a := fun a q => by have := q.1; omega
  have hA : ∀ k i, cU σ (fun _ _ => 0) k i → i = 0 ∧ PD k = some ((fun k _ => (match PD k with | some v => v.1 | none => 0) : xS) k i, cC κ (fun k _ => (match PD k with | some v => v.1 | none => 0)) σ (fun _ _ => 0) k i) := by
    intro k i hu
    have e19 : ∀ j, σ 19 j = 0 := fun j => hs 19 j (by decide)
    unfold cU at hu
    split at hu
    · subst hu
      refine ⟨rfl, ?_⟩
      simp only [cC, q0, q1, q3, q6, q8, e0, e1, e2]
      rfl
    · subst hu
      refine ⟨rfl, ?_⟩
      simp only [cC, rwA, q1, e3]
      rfl
    · exact absurd rfl hu.2
    · subst hu
      refine ⟨rfl, ?_⟩
      simp only [cC, q3, q4]
    · subst hu
      refine ⟨rfl, ?_⟩
      simp only [cC, rwA, q4]
      rfl
    · exact absurd rfl hu.2
    · subst hu
      refine ⟨rfl, ?_⟩
      simp only [cC, rwA, q6, e16]
      rfl
    · exact absurd rfl hu.2
    · subst hu
      refine ⟨rfl, ?_⟩
      simp only [cC, q8, q9, q11, q12]
      rfl
    · subst hu
      refine ⟨rfl, ?_⟩
      simp only [cC, rwA, q9, e20]
      rfl
    · exact absurd rfl hu.2
    · subst hu
      refine ⟨rfl, ?_⟩
      simp only [cC, q11, e19]
      congr 6
      funext j
      split <;> rfl
    · subst hu
      refine ⟨rfl, ?_⟩
      simp only [cC, q12]
      congr 6
      funext j
      by_cases hj : j < 48
      · rw [if_pos hj, if_pos hj, (hs2 j hj).2]; rfl
      · rw [if_neg hj, if_neg hj]
    · omega
    · omega
    · omega
    · exact absurd hu.1 (by omega)
    · exact absurd hu.1 (by omega)
    · exact absurd hu.1.1 (by omega)
    · exact absurd hu.1.1 (by omega)
    · omega
    · omega
    · omega
    · exact absurd hu (Nat.not_lt_zero _)
    · exact hu.elim
  refine hR (fun k _ => (match PD k with | some v => v.1 | none => 0)) _ ⟨⟨fun k i hu => nD.1 k _ _ (hA k i hu).2, fun k i k' i' hu hu' e => ?_, fun a o ha => ⟨(nD.2.2 a o ha).1, fun k i hu => (nD.2.2 a o ha).2 _ _ _ (hA k i hu).2⟩⟩, ?_⟩ ?_ ?_
  · obtain ⟨e1, e2⟩ := hA k i hu
    obtain ⟨e3, e4⟩ := hA k' i' hu'
    exact ⟨nD.2.1 _ _ _ _ _ e2 (by rw [e]; exact e4), by omega⟩
  · exact ⟨Or.inl ⟨rfl, e3⟩, Or.inl ⟨rfl, rfl⟩, Or.inl ⟨rfl, e16⟩, Or.inl ⟨rfl, e20⟩, fun w hw => by omega, fun a ha => absurd ha (nsv a)⟩
  · refine ⟨fun a k ha => absurd ha (nsv a), ⟨fun i hi => absurd hi (Nat.not_lt_zero _), fun w s _ _ => ?_⟩, fun q hq => by omega, fun j hj => ?_⟩
    · rw [hs 8 _ (by decide)]
      rfl
    · rw [hs 24 j (by decide)]
      exact ⟨fun q => absurd q bt_0, fun q => absurd (show (0 : Nat) = 1 from q.2) (by decide)⟩
  · show (match PD 0 with | some v => v.1 | none => 0) = x
    rw [q0]
end

