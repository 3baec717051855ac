/-! the class: a wall's layCoat -/
section
variable {κ : Nat → Nat} {R : xR → xH → Prop} {h0 : xH} {w : Nat}
theorem hue_has {σ : xS} {s : Nat} (h8 : ¬ σ 8 (12 * w + s) = 0) (h11 : σ 11 (up σ (12 * w + s)) = σ 0 0) : hue σ w s ↔ hasE σ w s := by
  unfold hue hasE edg edC
  rw [h11]
  constructor
  · rintro (⟨q1, q2, q3, q4, q5, q6⟩ | ⟨q1, q2, q3, q4, q5, q6⟩)
    · exact Or.inl ⟨q1, q2, q4.symm, q5, q6⟩
    · exact Or.inr ⟨q1, q2, q4.symm, q5, q6⟩
  · rintro (⟨q1, q2, q4, q5, q6⟩ | ⟨q1, q2, q4, q5, q6⟩)
    · exact Or.inl ⟨q1, q2, h8, q4.symm, q5, q6⟩
    · exact Or.inr ⟨q1, q2, h8, q4.symm, q5, q6⟩
def nwC (σ : xS) (w f s : Nat) : Prop := ∀ j, f ≤ j → j < s → ¬ σ 8 (12 * w + j) = 0 ∧ σ 11 (up σ (12 * w + j)) = σ 0 0
theorem lay_eq {σ : xS} {s p k : Nat} : lay w p k σ s = su (su (su (su (su (su (su (su σ 8 (12 * w + s) (σ 8 (12 * w + s) + 1)) 9 (6 * (12 * w + s) + σ 8 (12 * w + s)) p) 10 (6 * (12 * w + s) + σ 8 (12 * w + s)) k) 11 (6 * (12 * w + s) + σ 8 (12 * w + s)) (σ 0 0)) 12 (6 * (12 * w + s) + σ 8 (12 * w + s)) 0) 13 (6 * (12 * w + s) + σ 8 (12 * w + s)) 0) 15 (6 * (12 * w + s) + σ 8 (12 * w + s)) 0) 14 (6 * (12 * w + s) + σ 8 (12 * w + s)) (crk σ w (12 * w + s) p k) := rfl
theorem nwC_lay {σ : xS} {f s p k : Nat} (h : nwC σ w f s) (hI : MI σ) (hw : w < 10) (hs : s < 12) : nwC (lay w p k σ s) w f (s + 1) := by
  intro j h1 h2
  by_cases e : j = s
  · subst e
    have e8 : lay w p k σ j 8 (12 * w + j) = σ 8 (12 * w + j) + 1 := lay_8s
    have eu : up (lay w p k σ j) (12 * w + j) = 6 * (12 * w + j) + σ 8 (12 * w + j) := by unfold up; rw [e8]; omega
    rw [e8, eu, lay_o (c := 0) (by decide), lay_eq]
    refine ⟨by omega, ?_⟩
    simp (disch := omega) only [su_ne, su_eq]
  · have q := h j h1 (by omega)
    have h8j := hI.w8 (a := 12 * w + j) (by omega)
    have h8s := hI.w8 (a := 12 * w + s) (by omega)
    have e8 : lay w p k σ s 8 (12 * w + j) = σ 8 (12 * w + j) := lay_8 e
    have eu : up (lay w p k σ s) (12 * w + j) = up σ (12 * w + j) := by unfold up; rw [e8]
    have hne : ¬ up σ (12 * w + j) = 6 * (12 * w + s) + σ 8 (12 * w + s) := by
      have := q.1
      unfold up
      omega
    rw [e8, eu, lay_o (c := 0) (by decide), lay_eq]
    refine ⟨q.1, ?_⟩
    simp (disch := omega) only [su_ne]
    exact q.2
theorem LKp_lay {σ τ τ' : xS} {s p k : Nat} (hL : LKp σ τ) (hI : MI σ) (hw : w < σ 3 0) (hs : s < σ 4 w) (hk : 1 ≤ k) (ht : tkC τ τ' (6 * (12 * w + s) + σ 8 (12 * w + s)) (12 * w + s)) : LKp (lay w p k σ s) τ' := by
  intro a j ha hj
  have hW := hI.W
  have h4 := hI.w4 (w := w) (by omega)
  have ha' : sv σ a := by unfold sv at ha ⊢; rw [lay_o (by decide), lay_o (by decide)] at ha; exact ha
  have hl := sv_lt hI ha'
  have h8a := hI.w8 hl
  have h8s := hI.w8 (a := 12 * w + s) (by omega)
  obtain ⟨t1, t2⟩ := ht
  by_cases e : 6 * a + j = 6 * (12 * w + s) + σ 8 (12 * w + s)
  · rw [e, t1]
    have n1 : lay w p k σ s 13 (6 * (12 * w + s) + σ 8 (12 * w + s)) = 0 := by
      rw [lay_eq]; simp (disch := omega) only [su_ne, su_eq]
    have n2 : lay w p k σ s 12 (6 * (12 * w + s) + σ 8 (12 * w + s)) = 0 := by
      rw [lay_eq]; simp (disch := omega) only [su_ne, su_eq]
    have n3 : ndu (lay w p k σ s) (6 * (12 * w + s) + σ 8 (12 * w + s)) = need p * k := by
      unfold ndu
      rw [lay_eq]; simp (disch := omega) only [su_ne, su_eq]
    have n4 : 2 ≤ need p := by
      unfold need
      split
      · decide
      · split <;> decide
    have n5 : 2 * 1 ≤ need p * k := Nat.mul_le_mul n4 hk
    rw [n1, n2, n3]
    exact ⟨⟨fun q => by omega, fun q => by omega⟩, fun _ => rfl, by decide⟩
  · have hj' : j < σ 8 a := by
      by_cases ea : a = 12 * w + s
      · subst ea
        rw [lay_8s] at hj
        omega
      · have e8 : lay w p k σ s 8 a = σ 8 a := by rw [lay_eq]; simp (disch := omega) only [su_ne]
        rw [e8] at hj
        exact hj
    have q := hL a j ha' hj'
    have n1 : ∀ c, c ≠ 8 → lay w p k σ s c (6 * a + j) = σ c (6 * a + j) := fun c hc => by
      rw [lay_eq]; simp (disch := omega) only [su_ne]
    unfold ndu at q ⊢
    rw [n1 13 (by decide), n1 12 (by decide), n1 9 (by decide), n1 10 (by decide), t2 30 _ (by omega) (by omega)]
    exact q
def tkO (τ τ' : xS) : Prop := ∀ c i, c ≠ 17 → c ≠ 18 → c ≠ 30 → τ' c i = τ c i
def sameA (A A' : xS) : Prop := ∀ k i, k ≠ 18 → k ≠ 19 → A' k i = A k i
theorem lp_wlay1 (hK : KI κ) {f t p k : Nat} {l8 l9 : Option Value} (hp : p < 4) (hk : 1 ≤ k) (hk2 : k ≤ 20) {dd : Nat} : ∀ (n s k' n' : Nat) (l7 : Option Value) (A σ τ : xS) (ah : xH), CR κ A σ τ h0 ah → MI σ → LKp σ τ → nwC σ w f s → w < σ 3 0 → t < σ 4 w → σ 0 0 = dd → (∀ j, s ≤ j → j ≤ t → ¬ σ 8 (12 * w + j) = 6) → s + n = t + 1 → 2 * n ≤ k' → 176 * n ≤ n' →
    (∀ (A' τ' : xS) (ah' : xH) (l7' : Option Value) (k'' n'' : Nat), CR κ A' (fo (lay w p k) n s σ) τ' h0 ah' → MI (fo (lay w p k) n s σ) → LKp (fo (lay w p k) n s σ) τ' → nwC (fo (lay w p k) n s σ) w f (t + 1) → w < fo (lay w p k) n s σ 3 0 → t < fo (lay w p k) n s σ 4 w → tkO τ τ' → sameA A A' →
      xW (T45 κ) (xm κ) R (50, [some (.ref (A' 13 w)), some (.int (nI f)), some (.int (nI t)), some (.ref (κ p)), some (.int (nI k)), some (.int (nI dd)), some (.int (nI (t + 1))), l7', l8, l9], [], ah', k'', n'')) →
    xW (T45 κ) (xm κ) R (3, [some (.ref (A 13 w)), some (.int (nI f)), some (.int (nI t)), some (.ref (κ p)), some (.int (nI k)), some (.int (nI dd)), some (.int (nI s)), l7, l8, l9], [], ah, k', n') := by
  intro n
  induction n with
  | zero =>
    intro s k' n' l7 A σ τ ah h hI hL hnw hw ht hdd h6 hs hk' hn' hX
    have h4 := hI.w4 (w := w) (by have := hI.W; omega)
    have hs' : s = t + 1 := by omega
    subst hs'
    rw [e45_3]
    simp (disch := omega) only [e45_5, e45_6, e45_9, e45_11, e45_11n, e45_12, e45_15, e45_18, e45_21, e45_21n, e45_22, e45_24, e45_27, e45_27n, e45_29, e45_29n, e45_31n, e45_31, e45_34, e45_34n, e45_36, e45_36n, e45_37, e45_39, e45_41, e45_44, e45_47, xKv, xK0, xKx, xKHv, xKH0, xk_none, xk_i, xk_f, xk_l, xk_r, xk_n, xc_i, xc_f, xc_l, xc_d, xc_r, xc_n, xo_some, List.map_cons, List.map_nil, List.sum_cons, List.sum_nil, xnzn, xpn0, xpn1, xpnb, xpnn, i10, i00, true_imp_iff, false_imp_iff, not_true_eq_false, not_false_eq_true, true_and, and_true, implies_true, xnz0, xnz1, xnzb, xfz0, xfz1, xfzb, Option.isSome_some, if_true, if_false, xbF, xbT, and_false, false_and, Nat.zero_le, Nat.reduceEqDiff, Nat.reduceLeDiff, Nat.reduceAdd, Nat.reduceSub, xiT, xiF, pk_mul, nI_add, Nat.add_sub_cancel, lad0, leq0, lle0, lge0, llt0, lgt0, leq1, lle1, lge1, llt1, lgt1, lad1, lsu1, leq2, lle2, lge2, llt2, lgt2, lmu2, lmv2, lad2, lsu2, ldi2, leq3, lle3, lge3, llt3, lgt3, lmu3, lmv3, lad3, lsu3, ldi3, leq4, lle4, lge4, llt4, lgt4, lmu4, lmv4, lad4, lsu4, ldi4, leq5, lle5, lge5, llt5, lgt5, lmu5, lmv5, lad5, lsu5, ldi5, leq6, lle6, lge6, llt6, lgt6, lmu6, lmv6, lad6, lsu6, ldi6, leq8, lle8, lge8, llt8, lgt8, lmu8, lmv8, lad8, lsu8, ldi8, leq9, lle9, lge9, llt9, lgt9, lmu9, lmv9, lad9, lsu9, ldi9, leq10, lle10, lge10, llt10, lgt10, lmu10, lmv10, lad10, lsu10, ldi10, leq12, lle12, lge12, llt12, lgt12, lmu12, lmv12, lad12, lsu12, ldi12, leq20, lle20, lge20, llt20, lgt20, lmu20, lmv20, lad20, lsu20, ldi20, leq25, lle25, lge25, llt25, lgt25, lmu25, lmv25, lad25, lsu25, ldi25, leq30, lle30, lge30, llt30, lgt30, lmu30, lmv30, lad30, lsu30, ldi30, leq48, lle48, lge48, llt48, lgt48, lmu48, lmv48, lad48, lsu48, ldi48, leq50, lle50, lge50, llt50, lgt50, lmu50, lmv50, lad50, lsu50, ldi50, leq99, lle99, lge99, llt99, lgt99, lmu99, lmv99, lad99, lsu99, ldi99, leq100, lle100, lge100, llt100, lgt100, lmu100, lmv100, lad100, lsu100, ldi100, leq2000, lle2000, lge2000, llt2000, lgt2000, lmu2000, lmv2000, lad2000, lsu2000, ldi2000, xlt, ltT]
    exact hX A τ ah l7 k' n' h hI hL hnw hw ht (fun _ _ _ _ _ => rfl) (fun _ _ _ _ => rfl)
  | succ n ih =>
    intro s k' n' l7 A σ τ ah h hI hL hnw hw ht hdd h6 hs hk' hn' hX
    have hW := hI.W
    have h4 := hI.w4 (w := w) (by omega)
    obtain ⟨hsv, e1, e2⟩ := sv_i hI hw (s := s) (by omega)
    have f1 : xfld ah (A 13 w) 9 0 = some (.ref (A 14 w)) := xfld_of (h.wall hw)
    have hx : xis ah (A 14 w) 1 = True := xis_of (h.strips hw).1
    have hx0 : xis ah (A 13 w) 9 = True := xis_of (h.wall hw)
    have n6 := h6 s (Nat.le_refl _) (by omega)
    subst hdd
    rw [e45_3]
    simp (disch := omega) only [e45_5, e45_6, e45_9, e45_11, e45_11n, e45_12, e45_15, e45_18, e45_21, e45_21n, e45_22, e45_24, e45_27, e45_27n, e45_29, e45_29n, e45_31n, e45_31, e45_34, e45_34n, e45_36, e45_36n, e45_37, e45_39, xKv, xK0, xKx, xKHv, xKH0, xk_none, xk_i, xk_f, xk_l, xk_r, xk_n, xc_i, xc_f, xc_l, xc_d, xc_r, xc_n, xo_some, List.map_cons, List.map_nil, List.sum_cons, List.sum_nil, xnzn, xpn0, xpn1, xpnb, xpnn, i10, i00, true_imp_iff, false_imp_iff, not_true_eq_false, not_false_eq_true, true_and, and_true, implies_true, xnz0, xnz1, xnzb, xfz0, xfz1, xfzb, Option.isSome_some, if_true, if_false, xbF, xbT, and_false, false_and, Nat.zero_le, Nat.reduceEqDiff, Nat.reduceLeDiff, Nat.reduceAdd, Nat.reduceSub, xiT, xiF, pk_mul, nI_add, Nat.add_sub_cancel, lad0, leq0, lle0, lge0, llt0, lgt0, leq1, lle1, lge1, llt1, lgt1, lad1, lsu1, leq2, lle2, lge2, llt2, lgt2, lmu2, lmv2, lad2, lsu2, ldi2, leq3, lle3, lge3, llt3, lgt3, lmu3, lmv3, lad3, lsu3, ldi3, leq4, lle4, lge4, llt4, lgt4, lmu4, lmv4, lad4, lsu4, ldi4, leq5, lle5, lge5, llt5, lgt5, lmu5, lmv5, lad5, lsu5, ldi5, leq6, lle6, lge6, llt6, lgt6, lmu6, lmv6, lad6, lsu6, ldi6, leq8, lle8, lge8, llt8, lgt8, lmu8, lmv8, lad8, lsu8, ldi8, leq9, lle9, lge9, llt9, lgt9, lmu9, lmv9, lad9, lsu9, ldi9, leq10, lle10, lge10, llt10, lgt10, lmu10, lmv10, lad10, lsu10, ldi10, leq12, lle12, lge12, llt12, lgt12, lmu12, lmv12, lad12, lsu12, ldi12, leq20, lle20, lge20, llt20, lgt20, lmu20, lmv20, lad20, lsu20, ldi20, leq25, lle25, lge25, llt25, lgt25, lmu25, lmv25, lad25, lsu25, ldi25, leq30, lle30, lge30, llt30, lgt30, lmu30, lmv30, lad30, lsu30, ldi30, leq48, lle48, lge48, llt48, lgt48, lmu48, lmv48, lad48, lsu48, ldi48, leq50, lle50, lge50, llt50, lgt50, lmu50, lmv50, lad50, lsu50, ldi50, leq99, lle99, lge99, llt99, lgt99, lmu99, lmv99, lad99, lsu99, ldi99, leq100, lle100, lge100, llt100, lgt100, lmu100, lmv100, lad100, lsu100, ldi100, leq2000, lle2000, lge2000, llt2000, lgt2000, lmu2000, lmv2000, lad2000, lsu2000, ldi2000, xlt, xle, ltF, leF, f1, hx, hx0, sp_lsize (h.strips hw).1, sp_stripAt h hI hw]
    rw [e45_41]
    refine ⟨⟨by decide, ⟨_, h.strip hsv⟩, by omega, by omega⟩, sp_slay hK h hI hw (by omega) hp hk2 n6 (fun A' τ' ah' h' ht' hA' => ?_)⟩
    have hI' := MI_lay (k := k) hI hw (s := s) (by omega) hp hk2 n6
    have hL' := LKp_lay (k := k) (p := p) hL hI hw (s := s) (by omega) hk ht'
    have hnw' := nwC_lay (p := p) (k := k) hnw hI (by omega) (s := s) (by omega)
    have st := fun l7 k' n' (hk' : 2 * n ≤ k') (hn' : 176 * n ≤ n') => ih (s + 1) k' n' l7 A' (lay w p k σ s) τ' ah' h' hI' hL' hnw' (by rw [lay_o (by decide)]; exact hw) (by rw [lay_o (by decide)]; exact ht) (lay_o (by decide)) (fun j h1 h2 => by rw [lay_8 (by omega)]; exact h6 j (by omega) h2) (by omega) hk' hn' (fun A'' τ'' ah'' l7' k'' n'' q1 q2 q3 q4 q5 q6 q7 q8 => by
      refine hX A'' τ'' ah'' l7' k'' n'' q1 q2 q3 q4 q5 q6 (fun c i c1 c2 c3 => ?_) (fun k i k1 k2 => ?_)
      · rw [q7 c i c1 c2 c3, ht'.2 c i (by omega) (by omega)]
      · rw [q8 k i k1 k2, hA' k i k1 k2])
    have eA : A' 13 w = A 13 w := hA' 13 w (by decide) (by decide)
    rw [eA] at st
    show xW _ _ _ _
    simp (disch := omega) only [e45_44, e45_47, xKv, xK0, xKx, xKHv, xKH0, xk_none, xk_i, xk_f, xk_l, xk_r, xk_n, xc_i, xc_f, xc_l, xc_d, xc_r, xc_n, xo_some, List.map_cons, List.map_nil, List.sum_cons, List.sum_nil, xnzn, xpn0, xpn1, xpnb, xpnn, i10, i00, true_imp_iff, false_imp_iff, not_true_eq_false, not_false_eq_true, true_and, and_true, implies_true, xnz0, xnz1, xnzb, xfz0, xfz1, xfzb, Option.isSome_some, if_true, if_false, xbF, xbT, and_false, false_and, Nat.zero_le, Nat.reduceEqDiff, Nat.reduceLeDiff, Nat.reduceAdd, Nat.reduceSub, xiT, xiF, pk_mul, nI_add, Nat.add_sub_cancel, lad0, leq0, lle0, lge0, llt0, lgt0, leq1, lle1, lge1, llt1, lgt1, lad1, lsu1, leq2, lle2, lge2, llt2, lgt2, lmu2, lmv2, lad2, lsu2, ldi2, leq3, lle3, lge3, llt3, lgt3, lmu3, lmv3, lad3, lsu3, ldi3, leq4, lle4, lge4, llt4, lgt4, lmu4, lmv4, lad4, lsu4, ldi4, leq5, lle5, lge5, llt5, lgt5, lmu5, lmv5, lad5, lsu5, ldi5, leq6, lle6, lge6, llt6, lgt6, lmu6, lmv6, lad6, lsu6, ldi6, leq8, lle8, lge8, llt8, lgt8, lmu8, lmv8, lad8, lsu8, ldi8, leq9, lle9, lge9, llt9, lgt9, lmu9, lmv9, lad9, lsu9, ldi9, leq10, lle10, lge10, llt10, lgt10, lmu10, lmv10, lad10, lsu10, ldi10, leq12, lle12, lge12, llt12, lgt12, lmu12, lmv12, lad12, lsu12, ldi12, leq20, lle20, lge20, llt20, lgt20, lmu20, lmv20, lad20, lsu20, ldi20, leq25, lle25, lge25, llt25, lgt25, lmu25, lmv25, lad25, lsu25, ldi25, leq30, lle30, lge30, llt30, lgt30, lmu30, lmv30, lad30, lsu30, ldi30, leq48, lle48, lge48, llt48, lgt48, lmu48, lmv48, lad48, lsu48, ldi48, leq50, lle50, lge50, llt50, lgt50, lmu50, lmv50, lad50, lsu50, ldi50, leq99, lle99, lge99, llt99, lgt99, lmu99, lmv99, lad99, lsu99, ldi99, leq100, lle100, lge100, llt100, lgt100, lmu100, lmv100, lad100, lsu100, ldi100, leq2000, lle2000, lge2000, llt2000, lgt2000, lmu2000, lmv2000, lad2000, lsu2000, ldi2000]
    exact st _ _ _ (by omega) (by omega)
theorem lp_wlay2 (hK : KI κ) {A τ : xS} {f t dd : Nat} {p0 k0 : Value} {k' n' : Nat} : ∀ (n s c : Nat) (l8 l9 : Option Value) (σ : xS) (ah : xH), CR κ A σ τ h0 ah → MI σ → w < σ 3 0 → t < σ 4 w → (∀ j, s ≤ j → j ≤ t → ¬ σ 8 (12 * w + j) = 0 ∧ σ 11 (up σ (12 * w + j)) = σ 0 0) → s + n = t + 1 → xkill l8 = l8 →
    (∀ ah', CR κ A (fo (mrk w) n s σ) τ h0 ah' → R (.inl (some (.int (nI (c + mcn w n s σ))))) ah') →
    xW (T45 κ) (xm κ) R (56, [some (.ref (A 13 w)), some (.int (nI f)), some (.int (nI t)), some p0, some k0, some (.int (nI dd)), some (.int (nI c)), some (.int (nI s)), l8, l9], [], ah, k', n') := by
  intro n
  induction n with
  | zero =>
    intro s c l8 l9 σ ah h hI hw ht hnw hs hl8 hX
    have h4 := hI.w4 (w := w) (by have := hI.W; omega)
    have hs' : s = t + 1 := by omega
    subst hs'
    rw [e45_56]
    simp (disch := omega) only [e45_58, e45_59, e45_62, e45_64, e45_64n, e45_65, e45_68, e45_71, e45_74, e45_74n, e45_75, e45_77, e45_80, e45_80n, e45_82, e45_82n, e45_84n, e45_84, e45_87, e45_88, e45_91, e45_91n, e45_93, e45_96, e45_96n, e45_98, e45_98n, e45_100n, e45_100, e45_103, e45_103n, e45_105, e45_105n, e45_107, e45_110, e45_113, e45_113n, e45_114, e45_116, e45_119, e45_122, e45_123, e45_126, e45_127, e45_130, e45_132, e45_132n, e45_134, e45_137, e45_140, e45_141, e45_144, e45_145, e45_146, e45_148, e45_151, e45_154, e45_156, xKv, xK0, xKx, xKHv, xKH0, xk_none, xk_i, xk_f, xk_l, xk_r, xk_n, xc_i, xc_f, xc_l, xc_d, xc_r, xc_n, xo_some, List.map_cons, List.map_nil, List.sum_cons, List.sum_nil, xnzn, xpn0, xpn1, xpnb, xpnn, i10, i00, true_imp_iff, false_imp_iff, not_true_eq_false, not_false_eq_true, true_and, and_true, implies_true, xnz0, xnz1, xnzb, xfz0, xfz1, xfzb, Option.isSome_some, if_true, if_false, xbF, xbT, and_false, false_and, Nat.zero_le, Nat.reduceEqDiff, Nat.reduceLeDiff, Nat.reduceAdd, Nat.reduceSub, xiT, xiF, pk_mul, nI_add, Nat.add_sub_cancel, lad0, leq0, lle0, lge0, llt0, lgt0, leq1, lle1, lge1, llt1, lgt1, lad1, lsu1, leq2, lle2, lge2, llt2, lgt2, lmu2, lmv2, lad2, lsu2, ldi2, leq3, lle3, lge3, llt3, lgt3, lmu3, lmv3, lad3, lsu3, ldi3, leq4, lle4, lge4, llt4, lgt4, lmu4, lmv4, lad4, lsu4, ldi4, leq5, lle5, lge5, llt5, lgt5, lmu5, lmv5, lad5, lsu5, ldi5, leq6, lle6, lge6, llt6, lgt6, lmu6, lmv6, lad6, lsu6, ldi6, leq8, lle8, lge8, llt8, lgt8, lmu8, lmv8, lad8, lsu8, ldi8, leq9, lle9, lge9, llt9, lgt9, lmu9, lmv9, lad9, lsu9, ldi9, leq10, lle10, lge10, llt10, lgt10, lmu10, lmv10, lad10, lsu10, ldi10, leq12, lle12, lge12, llt12, lgt12, lmu12, lmv12, lad12, lsu12, ldi12, leq20, lle20, lge20, llt20, lgt20, lmu20, lmv20, lad20, lsu20, ldi20, leq25, lle25, lge25, llt25, lgt25, lmu25, lmv25, lad25, lsu25, ldi25, leq30, lle30, lge30, llt30, lgt30, lmu30, lmv30, lad30, lsu30, ldi30, leq48, lle48, lge48, llt48, lgt48, lmu48, lmv48, lad48, lsu48, ldi48, leq50, lle50, lge50, llt50, lgt50, lmu50, lmv50, lad50, lsu50, ldi50, leq99, lle99, lge99, llt99, lgt99, lmu99, lmv99, lad99, lsu99, ldi99, leq100, lle100, lge100, llt100, lgt100, lmu100, lmv100, lad100, lsu100, ldi100, leq2000, lle2000, lge2000, llt2000, lgt2000, lmu2000, lmv2000, lad2000, lsu2000, ldi2000, xlt, ltT]
    exact hX ah h
  | succ n ih =>
    intro s c l8 l9 σ ah h hI hw ht hnw hs hl8 hX
    have hW := hI.W
    have h4 := hI.w4 (w := w) (by omega)
    obtain ⟨hsv, e1, e2⟩ := sv_i hI hw (s := s) (by omega)
    have f1 : xfld ah (A 13 w) 9 0 = some (.ref (A 14 w)) := xfld_of (h.wall hw)
    have hx : xis ah (A 14 w) 1 = True := xis_of (h.strips hw).1
    have hx0 : xis ah (A 13 w) 9 = True := xis_of (h.wall hw)
    have hx2 : xis ah (A 16 (12 * w + s)) 8 = True := xis_of (h.strip hsv)
    obtain ⟨n8, n11⟩ := hnw s (Nat.le_refl _) (by omega)
    have htop := h.top hI hsv n8
    have f3 : xfld ah (A 19 (up σ (12 * w + s))) 2 3 = some (.int (nI (σ 14 (up σ (12 * w + s))))) := xfld_of htop
    have hl := sv_lt hI hsv
    have hul := up_lt n8 (hI.w8 hl) hl
    have hc := hI.c hul
    have hu19 : cU σ τ 19 (up σ (12 * w + s)) := by rw [up_k n8]; exact cU19 hI hsv (by omega)
    have g := h.coatW hu19 (mkv σ w s) (σ 15 (up σ (12 * w + s))) (τ 30 (up σ (12 * w + s)))
    have es : su (su σ 14 (up σ (12 * w + s)) (mkv σ w s)) 15 (up σ (12 * w + s)) (σ 15 (up σ (12 * w + s))) = mrk w σ s := su_id (su_nr (by decide)).symm
    rw [es, su_id (σ := τ) rfl] at g
    have hv := mkv_le (σ := σ) (w := w) (s := s)
    have hI' : MI (mrk w σ s) := MI_14 hI hv
    have en : ∀ c, c + mcn w (n + 1) s σ = c + mkv σ w s + mcn w n (s + 1) (mrk w σ s) := fun c => by
      show c + (mkv σ w s + mcn w n (s + 1) (mrk w σ s)) = _
      omega
    have st := fun l8 l9 hl8 => ih (s + 1) (c + mkv σ w s) l8 l9 (mrk w σ s) _ g hI' (by rw [mrk_o (by decide)]; exact hw) (by rw [mrk_o (by decide)]; exact ht) (fun j h1 h2 => by
        unfold up
        rw [mrk_o (by decide), mrk_o (by decide), mrk_o (by decide)]
        exact hnw j (by omega) h2) (by omega) hl8 (fun ah' h' => by
        have := hX ah' h'
        rw [en] at this
        exact this)
    have fin : ∀ (v : Nat) (vi : Int32) (ah1 : xH), v = mkv σ w s → vi = nI v → ah1 = xput ah (A 19 (up σ (12 * w + s))) 3 (.int vi) → xW (T45 κ) (xm κ) R (130, [some (.ref (A 13 w)), some (.int (nI f)), some (.int (nI t)), some p0, some k0, some (.int (nI dd)), some (.int (nI c)), some (.int (nI s)), some (.ref (A 16 (12 * w + s))), some (.ref (A 19 (up σ (12 * w + s))))], [], ah1, k', n') := by
      intro v vi ah1 hv1 hvi hah
      subst hvi
      have ex : xput ah (A 19 (up σ (12 * w + s))) 3 (.int (nI v)) = xup ah (A 19 (up σ (12 * w + s))) (ccell κ (σ 9 (up σ (12 * w + s))) (σ 10 (up σ (12 * w + s))) (σ 11 (up σ (12 * w + s))) v (σ 15 (up σ (12 * w + s))) (τ 30 (up σ (12 * w + s)))) := xput_of htop
      rw [ex] at hah
      subst hah
      have ff : xfld (xup ah (A 19 (up σ (12 * w + s))) (ccell κ (σ 9 (up σ (12 * w + s))) (σ 10 (up σ (12 * w + s))) (σ 11 (up σ (12 * w + s))) v (σ 15 (up σ (12 * w + s))) (τ 30 (up σ (12 * w + s))))) (A 19 (up σ (12 * w + s))) 2 3 = some (.int (nI v)) := xfld_of (xup_self _ _ _)
      rw [← hv1] at st
      by_cases h0 : v = 0
      · simp (disch := omega) only [e45_130, e45_132, e45_132n, e45_134, e45_137, e45_140, e45_141, e45_144, e45_145, e45_146, e45_148, e45_151, xKv, xK0, xKx, xKHv, xKH0, xk_none, xk_i, xk_f, xk_l, xk_r, xk_n, xc_i, xc_f, xc_l, xc_d, xc_r, xc_n, xo_some, List.map_cons, List.map_nil, List.sum_cons, List.sum_nil, xnzn, xpn0, xpn1, xpnb, xpnn, i10, i00, true_imp_iff, false_imp_iff, not_true_eq_false, not_false_eq_true, true_and, and_true, implies_true, xnz0, xnz1, xnzb, xfz0, xfz1, xfzb, Option.isSome_some, if_true, if_false, xbF, xbT, and_false, false_and, Nat.zero_le, Nat.reduceEqDiff, Nat.reduceLeDiff, Nat.reduceAdd, Nat.reduceSub, xiT, xiF, pk_mul, nI_add, Nat.add_sub_cancel, lad0, leq0, lle0, lge0, llt0, lgt0, leq1, lle1, lge1, llt1, lgt1, lad1, lsu1, leq2, lle2, lge2, llt2, lgt2, lmu2, lmv2, lad2, lsu2, ldi2, leq3, lle3, lge3, llt3, lgt3, lmu3, lmv3, lad3, lsu3, ldi3, leq4, lle4, lge4, llt4, lgt4, lmu4, lmv4, lad4, lsu4, ldi4, leq5, lle5, lge5, llt5, lgt5, lmu5, lmv5, lad5, lsu5, ldi5, leq6, lle6, lge6, llt6, lgt6, lmu6, lmv6, lad6, lsu6, ldi6, leq8, lle8, lge8, llt8, lgt8, lmu8, lmv8, lad8, lsu8, ldi8, leq9, lle9, lge9, llt9, lgt9, lmu9, lmv9, lad9, lsu9, ldi9, leq10, lle10, lge10, llt10, lgt10, lmu10, lmv10, lad10, lsu10, ldi10, leq12, lle12, lge12, llt12, lgt12, lmu12, lmv12, lad12, lsu12, ldi12, leq20, lle20, lge20, llt20, lgt20, lmu20, lmv20, lad20, lsu20, ldi20, leq25, lle25, lge25, llt25, lgt25, lmu25, lmv25, lad25, lsu25, ldi25, leq30, lle30, lge30, llt30, lgt30, lmu30, lmv30, lad30, lsu30, ldi30, leq48, lle48, lge48, llt48, lgt48, lmu48, lmv48, lad48, lsu48, ldi48, leq50, lle50, lge50, llt50, lgt50, lmu50, lmv50, lad50, lsu50, ldi50, leq99, lle99, lge99, llt99, lgt99, lmu99, lmv99, lad99, lsu99, ldi99, leq100, lle100, lge100, llt100, lgt100, lmu100, lmv100, lad100, lsu100, ldi100, leq2000, lle2000, lge2000, llt2000, lgt2000, lmu2000, lmv2000, lad2000, lsu2000, ldi2000, ff, eqNT]
        rw [h0] at st ⊢
        exact st _ _ rfl
      · have h1 : v = 1 := by omega
        simp (disch := omega) only [e45_130, e45_132, e45_132n, e45_134, e45_137, e45_140, e45_141, e45_144, e45_145, e45_146, e45_148, e45_151, xKv, xK0, xKx, xKHv, xKH0, xk_none, xk_i, xk_f, xk_l, xk_r, xk_n, xc_i, xc_f, xc_l, xc_d, xc_r, xc_n, xo_some, List.map_cons, List.map_nil, List.sum_cons, List.sum_nil, xnzn, xpn0, xpn1, xpnb, xpnn, i10, i00, true_imp_iff, false_imp_iff, not_true_eq_false, not_false_eq_true, true_and, and_true, implies_true, xnz0, xnz1, xnzb, xfz0, xfz1, xfzb, Option.isSome_some, if_true, if_false, xbF, xbT, and_false, false_and, Nat.zero_le, Nat.reduceEqDiff, Nat.reduceLeDiff, Nat.reduceAdd, Nat.reduceSub, xiT, xiF, pk_mul, nI_add, Nat.add_sub_cancel, lad0, leq0, lle0, lge0, llt0, lgt0, leq1, lle1, lge1, llt1, lgt1, lad1, lsu1, leq2, lle2, lge2, llt2, lgt2, lmu2, lmv2, lad2, lsu2, ldi2, leq3, lle3, lge3, llt3, lgt3, lmu3, lmv3, lad3, lsu3, ldi3, leq4, lle4, lge4, llt4, lgt4, lmu4, lmv4, lad4, lsu4, ldi4, leq5, lle5, lge5, llt5, lgt5, lmu5, lmv5, lad5, lsu5, ldi5, leq6, lle6, lge6, llt6, lgt6, lmu6, lmv6, lad6, lsu6, ldi6, leq8, lle8, lge8, llt8, lgt8, lmu8, lmv8, lad8, lsu8, ldi8, leq9, lle9, lge9, llt9, lgt9, lmu9, lmv9, lad9, lsu9, ldi9, leq10, lle10, lge10, llt10, lgt10, lmu10, lmv10, lad10, lsu10, ldi10, leq12, lle12, lge12, llt12, lgt12, lmu12, lmv12, lad12, lsu12, ldi12, leq20, lle20, lge20, llt20, lgt20, lmu20, lmv20, lad20, lsu20, ldi20, leq25, lle25, lge25, llt25, lgt25, lmu25, lmv25, lad25, lsu25, ldi25, leq30, lle30, lge30, llt30, lgt30, lmu30, lmv30, lad30, lsu30, ldi30, leq48, lle48, lge48, llt48, lgt48, lmu48, lmv48, lad48, lsu48, ldi48, leq50, lle50, lge50, llt50, lgt50, lmu50, lmv50, lad50, lsu50, ldi50, leq99, lle99, lge99, llt99, lgt99, lmu99, lmv99, lad99, lsu99, ldi99, leq100, lle100, lge100, llt100, lgt100, lmu100, lmv100, lad100, lsu100, ldi100, leq2000, lle2000, lge2000, llt2000, lgt2000, lmu2000, lmv2000, lad2000, lsu2000, ldi2000, ff, eqNF]
        rw [h1] at st ⊢
        exact st _ _ rfl
    rw [e45_56]
    by_cases q : σ 14 (up σ (12 * w + s)) = 0
    · by_cases qe : hasE σ w s
      · have ev : mkv σ w s = 1 := xi_t (Or.inr qe)
        have qh : hue σ w s := (hue_has n8 n11).mpr qe
        have st2 := fin 1 1 _ ev.symm rfl rfl
        simp (disch := omega) only [e45_58, e45_59, e45_62, e45_64, e45_64n, e45_65, e45_68, e45_71, e45_74, e45_74n, e45_75, e45_77, e45_80, e45_80n, e45_82, e45_82n, e45_84n, e45_84, e45_87, e45_88, e45_91, e45_91n, e45_93, e45_96, e45_96n, e45_98, e45_98n, e45_100n, e45_100, e45_103, e45_103n, e45_105, e45_105n, e45_107, e45_110, e45_113, e45_113n, e45_114, e45_116, e45_119, e45_122, e45_123, e45_126, e45_127, xKv, xK0, xKx, xKHv, xKH0, xk_none, xk_i, xk_f, xk_l, xk_r, xk_n, xc_i, xc_f, xc_l, xc_d, xc_r, xc_n, xo_some, List.map_cons, List.map_nil, List.sum_cons, List.sum_nil, xnzn, xpn0, xpn1, xpnb, xpnn, i10, i00, true_imp_iff, false_imp_iff, not_true_eq_false, not_false_eq_true, true_and, and_true, implies_true, xnz0, xnz1, xnzb, xfz0, xfz1, xfzb, Option.isSome_some, if_true, if_false, xbF, xbT, and_false, false_and, Nat.zero_le, Nat.reduceEqDiff, Nat.reduceLeDiff, Nat.reduceAdd, Nat.reduceSub, xiT, xiF, pk_mul, nI_add, Nat.add_sub_cancel, lad0, leq0, lle0, lge0, llt0, lgt0, leq1, lle1, lge1, llt1, lgt1, lad1, lsu1, leq2, lle2, lge2, llt2, lgt2, lmu2, lmv2, lad2, lsu2, ldi2, leq3, lle3, lge3, llt3, lgt3, lmu3, lmv3, lad3, lsu3, ldi3, leq4, lle4, lge4, llt4, lgt4, lmu4, lmv4, lad4, lsu4, ldi4, leq5, lle5, lge5, llt5, lgt5, lmu5, lmv5, lad5, lsu5, ldi5, leq6, lle6, lge6, llt6, lgt6, lmu6, lmv6, lad6, lsu6, ldi6, leq8, lle8, lge8, llt8, lgt8, lmu8, lmv8, lad8, lsu8, ldi8, leq9, lle9, lge9, llt9, lgt9, lmu9, lmv9, lad9, lsu9, ldi9, leq10, lle10, lge10, llt10, lgt10, lmu10, lmv10, lad10, lsu10, ldi10, leq12, lle12, lge12, llt12, lgt12, lmu12, lmv12, lad12, lsu12, ldi12, leq20, lle20, lge20, llt20, lgt20, lmu20, lmv20, lad20, lsu20, ldi20, leq25, lle25, lge25, llt25, lgt25, lmu25, lmv25, lad25, lsu25, ldi25, leq30, lle30, lge30, llt30, lgt30, lmu30, lmv30, lad30, lsu30, ldi30, leq48, lle48, lge48, llt48, lgt48, lmu48, lmv48, lad48, lsu48, ldi48, leq50, lle50, lge50, llt50, lgt50, lmu50, lmv50, lad50, lsu50, ldi50, leq99, lle99, lge99, llt99, lgt99, lmu99, lmv99, lad99, lsu99, ldi99, leq100, lle100, lge100, llt100, lgt100, lmu100, lmv100, lad100, lsu100, ldi100, leq2000, lle2000, lge2000, llt2000, lgt2000, lmu2000, lmv2000, lad2000, lsu2000, ldi2000, xlt, xle, ltF, leF, f1, hx, hx0, hx2, sp_lsize (h.strips hw).1, sp_stripAt h hI hw, hl8, sp_top1 h hI hsv n8, f3, q, sp_unplanned hK h hI hw, qh]
        exact st2
      · have ev : mkv σ w s = 0 := xi_f (fun q' => q'.elim (fun q' => q' q) qe)
        have qh : ¬ hue σ w s := fun q' => qe ((hue_has n8 n11).mp q')
        have st2 := fin 0 0 _ ev.symm rfl rfl
        simp (disch := omega) only [e45_58, e45_59, e45_62, e45_64, e45_64n, e45_65, e45_68, e45_71, e45_74, e45_74n, e45_75, e45_77, e45_80, e45_80n, e45_82, e45_82n, e45_84n, e45_84, e45_87, e45_88, e45_91, e45_91n, e45_93, e45_96, e45_96n, e45_98, e45_98n, e45_100n, e45_100, e45_103, e45_103n, e45_105, e45_105n, e45_107, e45_110, e45_113, e45_113n, e45_114, e45_116, e45_119, e45_122, e45_123, e45_126, e45_127, xKv, xK0, xKx, xKHv, xKH0, xk_none, xk_i, xk_f, xk_l, xk_r, xk_n, xc_i, xc_f, xc_l, xc_d, xc_r, xc_n, xo_some, List.map_cons, List.map_nil, List.sum_cons, List.sum_nil, xnzn, xpn0, xpn1, xpnb, xpnn, i10, i00, true_imp_iff, false_imp_iff, not_true_eq_false, not_false_eq_true, true_and, and_true, implies_true, xnz0, xnz1, xnzb, xfz0, xfz1, xfzb, Option.isSome_some, if_true, if_false, xbF, xbT, and_false, false_and, Nat.zero_le, Nat.reduceEqDiff, Nat.reduceLeDiff, Nat.reduceAdd, Nat.reduceSub, xiT, xiF, pk_mul, nI_add, Nat.add_sub_cancel, lad0, leq0, lle0, lge0, llt0, lgt0, leq1, lle1, lge1, llt1, lgt1, lad1, lsu1, leq2, lle2, lge2, llt2, lgt2, lmu2, lmv2, lad2, lsu2, ldi2, leq3, lle3, lge3, llt3, lgt3, lmu3, lmv3, lad3, lsu3, ldi3, leq4, lle4, lge4, llt4, lgt4, lmu4, lmv4, lad4, lsu4, ldi4, leq5, lle5, lge5, llt5, lgt5, lmu5, lmv5, lad5, lsu5, ldi5, leq6, lle6, lge6, llt6, lgt6, lmu6, lmv6, lad6, lsu6, ldi6, leq8, lle8, lge8, llt8, lgt8, lmu8, lmv8, lad8, lsu8, ldi8, leq9, lle9, lge9, llt9, lgt9, lmu9, lmv9, lad9, lsu9, ldi9, leq10, lle10, lge10, llt10, lgt10, lmu10, lmv10, lad10, lsu10, ldi10, leq12, lle12, lge12, llt12, lgt12, lmu12, lmv12, lad12, lsu12, ldi12, leq20, lle20, lge20, llt20, lgt20, lmu20, lmv20, lad20, lsu20, ldi20, leq25, lle25, lge25, llt25, lgt25, lmu25, lmv25, lad25, lsu25, ldi25, leq30, lle30, lge30, llt30, lgt30, lmu30, lmv30, lad30, lsu30, ldi30, leq48, lle48, lge48, llt48, lgt48, lmu48, lmv48, lad48, lsu48, ldi48, leq50, lle50, lge50, llt50, lgt50, lmu50, lmv50, lad50, lsu50, ldi50, leq99, lle99, lge99, llt99, lgt99, lmu99, lmv99, lad99, lsu99, ldi99, leq100, lle100, lge100, llt100, lgt100, lmu100, lmv100, lad100, lsu100, ldi100, leq2000, lle2000, lge2000, llt2000, lgt2000, lmu2000, lmv2000, lad2000, lsu2000, ldi2000, xlt, xle, ltF, leF, f1, hx, hx0, hx2, sp_lsize (h.strips hw).1, sp_stripAt h hI hw, hl8, sp_top1 h hI hsv n8, f3, q, sp_unplanned hK h hI hw, qh]
        exact st2
    · have ev : mkv σ w s = 1 := xi_t (Or.inl q)
      have st2 := fin 1 1 _ ev.symm rfl rfl
      simp (disch := omega) only [e45_58, e45_59, e45_62, e45_64, e45_64n, e45_65, e45_68, e45_71, e45_74, e45_74n, e45_75, e45_77, e45_80, e45_80n, e45_82, e45_82n, e45_84n, e45_84, e45_87, e45_88, e45_91, e45_91n, e45_93, e45_96, e45_96n, e45_98, e45_98n, e45_100n, e45_100, e45_103, e45_103n, e45_105, e45_105n, e45_107, e45_110, e45_113, e45_113n, e45_114, e45_116, e45_119, e45_122, e45_123, e45_126, e45_127, xKv, xK0, xKx, xKHv, xKH0, xk_none, xk_i, xk_f, xk_l, xk_r, xk_n, xc_i, xc_f, xc_l, xc_d, xc_r, xc_n, xo_some, List.map_cons, List.map_nil, List.sum_cons, List.sum_nil, xnzn, xpn0, xpn1, xpnb, xpnn, i10, i00, true_imp_iff, false_imp_iff, not_true_eq_false, not_false_eq_true, true_and, and_true, implies_true, xnz0, xnz1, xnzb, xfz0, xfz1, xfzb, Option.isSome_some, if_true, if_false, xbF, xbT, and_false, false_and, Nat.zero_le, Nat.reduceEqDiff, Nat.reduceLeDiff, Nat.reduceAdd, Nat.reduceSub, xiT, xiF, pk_mul, nI_add, Nat.add_sub_cancel, lad0, leq0, lle0, lge0, llt0, lgt0, leq1, lle1, lge1, llt1, lgt1, lad1, lsu1, leq2, lle2, lge2, llt2, lgt2, lmu2, lmv2, lad2, lsu2, ldi2, leq3, lle3, lge3, llt3, lgt3, lmu3, lmv3, lad3, lsu3, ldi3, leq4, lle4, lge4, llt4, lgt4, lmu4, lmv4, lad4, lsu4, ldi4, leq5, lle5, lge5, llt5, lgt5, lmu5, lmv5, lad5, lsu5, ldi5, leq6, lle6, lge6, llt6, lgt6, lmu6, lmv6, lad6, lsu6, ldi6, leq8, lle8, lge8, llt8, lgt8, lmu8, lmv8, lad8, lsu8, ldi8, leq9, lle9, lge9, llt9, lgt9, lmu9, lmv9, lad9, lsu9, ldi9, leq10, lle10, lge10, llt10, lgt10, lmu10, lmv10, lad10, lsu10, ldi10, leq12, lle12, lge12, llt12, lgt12, lmu12, lmv12, lad12, lsu12, ldi12, leq20, lle20, lge20, llt20, lgt20, lmu20, lmv20, lad20, lsu20, ldi20, leq25, lle25, lge25, llt25, lgt25, lmu25, lmv25, lad25, lsu25, ldi25, leq30, lle30, lge30, llt30, lgt30, lmu30, lmv30, lad30, lsu30, ldi30, leq48, lle48, lge48, llt48, lgt48, lmu48, lmv48, lad48, lsu48, ldi48, leq50, lle50, lge50, llt50, lgt50, lmu50, lmv50, lad50, lsu50, ldi50, leq99, lle99, lge99, llt99, lgt99, lmu99, lmv99, lad99, lsu99, ldi99, leq100, lle100, lge100, llt100, lgt100, lmu100, lmv100, lad100, lsu100, ldi100, leq2000, lle2000, lge2000, llt2000, lgt2000, lmu2000, lmv2000, lad2000, lsu2000, ldi2000, xlt, xle, ltF, leF, f1, hx, hx0, hx2, sp_lsize (h.strips hw).1, sp_stripAt h hI hw, hl8, sp_top1 h hI hsv n8, f3, q]
      exact st2
theorem sp_wlay (hK : KI κ) {A σ τ : xS} {ah : xH} (h : CR κ A σ τ h0 ah) (hI : MI σ) (hL : LKp σ τ) (hw : w < σ 3 0) {f t p k : Nat} (ht : t < σ 4 w) (hf : f ≤ t) (hp : p < 4) (hk : 1 ≤ k) (hk2 : k ≤ 20) (hn : ¬ offF σ w f t p)
    (hX : ∀ A' τ' ah', CR κ A' (fo (mrk w) (t + 1 - f) f (s_coat1 σ w f t p k)) τ' h0 ah' → LKp (s_coat1 σ w f t p k) τ' → tkO τ τ' → sameA A A' → R (.inl (some (.int (nI (mcn w (t + 1 - f) f (s_coat1 σ w f t p k)))))) ah') :
    xm κ 45 [.ref (A 13 w), .int (nI f), .int (nI t), .ref (κ p), .int (nI k), .int (nI (σ 0 0))] ah R := by
  have hW := hI.W
  have h4 := hI.w4 (w := w) (by omega)
  rw [en45, e45_0, e45_1, xk_i]
  refine lp_wlay1 hK hp hk hk2 (t + 1 - f) f _ _ none A σ τ ah h hI hL (fun j h1 h2 => by omega) hw ht rfl (fun j h1 h2 q => hn ⟨j, h1, h2, Or.inr (Or.inr q)⟩) (by omega) (by omega) (by omega) (fun A' τ' ah' l7' k'' n'' q1 q2 q3 q4 q5 q6 q7 q8 => ?_)
  rw [e45_50, e45_51, xk_i, e45_53, e45_54, xk_i]
  refine lp_wlay2 hK (t + 1 - f) f 0 none none _ ah' q1 q2 q5 q6 (fun j h1 h2 => q4 j h1 (by omega)) (by omega) rfl (fun ah'' h'' => ?_)
  rw [Nat.zero_add]
  exact hX A' τ' ah'' h'' q3 q7 q8
end

