/-! the class's calls: patch -/
theorem fo_pc1x {x : Int64} {P c i : Nat} : ∀ (n s : Nat) (σ : xS), fo (pc1 x P) n s σ c i = xi ((c = 22 ∨ c = 23 ∨ c = 24) ∧ s ≤ i ∧ i < s + n ∧ bt x i) (if c = 22 then P + 1 else 0) (σ c i) := by
  intro n
  induction n with
  | zero => intro s σ; rw [xi_f (fun q => by omega)]; rfl
  | succ n ih =>
    intro s σ
    show fo (pc1 x P) n (s + 1) (pc1 x P σ s) c i = _
    rw [ih]
    by_cases q : (c = 22 ∨ c = 23 ∨ c = 24) ∧ s ≤ i ∧ i < s + (n + 1) ∧ bt x i
    · rw [xi_t q]
      by_cases e : i = s
      · rw [xi_f (fun q' => by omega)]
        unfold pc1
        rw [xi_t (by rw [← e]; exact q.2.2.2), e]
        rcases q.1 with h | h | h <;> subst h
        · rw [su_nr (by decide), su_nr (by decide), su_eq]; rfl
        · rw [su_nr (by decide), su_eq]; rfl
        · rw [su_eq]; rfl
      · rw [xi_t ⟨q.1, by omega, by omega, q.2.2.2⟩]
    · rw [xi_f q, xi_f (fun q' => q ⟨q'.1, by omega, by omega, q'.2.2.2⟩)]
      unfold pc1
      by_cases hb : bt x s
      · rw [xi_t hb, su_ne (fun q' => q ⟨by omega, by omega, by omega, by rw [q'.2]; exact hb⟩), su_ne (fun q' => q ⟨by omega, by omega, by omega, by rw [q'.2]; exact hb⟩), su_ne (fun q' => q ⟨by omega, by omega, by omega, by rw [q'.2]; exact hb⟩)]
      · rw [xi_f hb]
section
variable {κ : Nat → Nat} {R : xR → xH → Prop} {A σ τ : xS} {h0 ah : xH}
theorem CR.addQ (h : CR κ A σ τ h0 ah) {d xn x e' M : Nat} (hx : ah x = none) {ah' : xH} {n : Nat} (hn : σ 20 0 = n)
    (hc : (e' = rwA κ A τ 9 0 ∧ ¬ τ 10 0 = 0) ∨ (xup ah x (.inr (6, [.int (nI d), .long (lN xn)]))) e' = none) (hM : M ∈ caps) (hM2 : n + 1 ≤ M)
    (h1 : ah' (A 9 0) = some (lcell (nI (τ 9 0) + 1) e' (n + 1)))
    (h2 : ah' e' = some (rcell M (n + 1) (fun i => if i = n then x else A 22 i))) (hne : A 9 0 ≠ e')
    (h3 : ∀ a, a ≠ A 9 0 → a ≠ e' → ah' a = xup ah x (.inr (6, [.int (nI d), .long (lN xn)])) a) :
    CR κ (su (su A 22 n x) 10 0 e') (su (su σ 21 n d) 20 0 (n + 1)) (su (su (su τ 31 n xn) 10 0 M) 9 0 (τ 9 0 + 1)) h0 ah' := by
  have hM0 := caps_le M hM
  have g1 := h.1.nw (k := 22) (i := n) hx (show ¬ n < σ 20 0 by omega) (.inr (6, [.int (nI d), .long (lN xn)]))
  have eA : su A 22 n x 9 0 = A 9 0 := su_nr (by decide)
  have eA8 : su A 22 n x 10 0 = A 10 0 := su_nr (by decide)
  have g2 := g1.ladd (k := 9) (i := 0) (e' := e') (ah' := ah') (Or.inr rfl) (hc.imp (fun q => ⟨by rw [eA8, q.1]; exact rwA_ne q.2, Or.inr ⟨rfl, q.2⟩⟩) id) (by rw [eA]; exact h1) h2 (by rw [eA]; exact hne) (fun b q1 q2 => by rw [eA] at q1; exact h3 b q1 q2)
  have lsv : ∀ b, sv (su (su σ 21 n d) 20 0 (n + 1)) b = sv σ b := fun b => by rw [sv_row (by decide), sv_row (by decide)]
  refine ⟨g2.cg (fun k' i' hu => ?_) (fun _ _ _ => rfl) (fun k' i' hu => ?_), ?_⟩
  · by_cases e10 : k' = 10
    · subst e10
      exact Or.inl ⟨rfl, hu.1⟩
    · by_cases e22 : k' = 22
      · subst e22
        have q : i' < su (su σ 21 n d) 20 0 (n + 1) 20 0 := hu
        rw [su_eq] at q
        by_cases ei : i' = n
        · exact Or.inr (Or.inl ⟨rfl, ei⟩)
        · refine Or.inr (Or.inr ?_)
          show i' < σ 20 0
          omega
      · refine Or.inr (Or.inr ?_)
        unfold cU at hu ⊢
        split at hu <;> first | exact hu | (simp (disch := omega) only [su_nr, lsv] at hu ⊢ <;> first | exact hu | omega) | omega
  · unfold cu
    by_cases e9 : k' = 9 ∧ i' = 0
    · obtain ⟨rfl, rfl⟩ := e9
      rw [if_pos ⟨rfl, rfl⟩]
      show lcell _ (rwA _ _ _ 9 0) _ = _
      rw [rwA_ne (by simp (disch := omega) only [su_ne, su_eq]; omega)]
      simp (disch := omega) only [su_ne, su_eq, nI_succ]
    · rw [if_neg e9]
      by_cases e10 : k' = 10 ∧ i' = 0
      · obtain ⟨rfl, rfl⟩ := e10
        rw [if_pos ⟨rfl, rfl⟩]
        show rcell _ _ _ = _
        simp (disch := omega) only [su_ne, su_eq]
        refine rcell_cg (fun j hj => ?_)
        by_cases ej : j = n
        · subst ej; rw [su_eq, if_pos rfl]
        · rw [if_neg ej, su_ne (by omega)]
      · rw [if_neg e10]
        by_cases e22 : k' = 22
        · subst e22
          by_cases ei : i' = n
          · subst ei
            rw [if_pos ⟨rfl, rfl⟩]
            unfold cC
            simp (disch := omega) only [su_ne, su_eq]
          · rw [if_neg (fun q => ei q.2)]
            unfold cC
            simp (disch := omega) only [su_ne]
        · rw [if_neg (fun q => e22 q.1)]
          have k9 : k' ≠ 9 := fun q => e9 ⟨q, by subst q; exact hu⟩
          have k10 : k' ≠ 10 := fun q => e10 ⟨q, by subst q; exact hu.1⟩
          rw [cC_A (rfsN_10 k9), cC_A (rfsN_22 k10), cC_rowT (rwTN_9 k9), cC_rowT (rwTN_10 ⟨k9, k10⟩), cC_rowT (rwTN_31 e22), cC_row (rwsN_20 ⟨k9, k10⟩), cC_row (rwsN_21 e22)]
  · obtain ⟨w1, w2, w3, w4, w5, w6⟩ := h.2
    unfold CW
    simp (disch := omega) only [su_nr, su_eq, lsv]
    exact ⟨w1, w2, w3, Or.inr ⟨hM2, hM⟩, w5, w6⟩
theorem sp_patchInit {x : Nat} {d : Int32} {y : Int64} (hc : ah x = some (.inr (6, [.int 0, .long 0]))) : xm κ 15 [.ref x, .int d, .long y] ah R ↔ R (.inl none) (xup ah x (.inr (6, [.int d, .long y]))) := by
  have f0 : (xfld ah x 6 0).isSome = true := by rw [xfld_of hc]; rfl
  have e1 : xput ah x 0 (.int d) = xup ah x (.inr (6, [.int d, .long 0])) := xput_of hc
  have h1 : xup ah x (.inr (6, [.int d, .long 0])) x = some (.inr (6, [.int d, .long 0])) := xup_self _ _ _
  have f1 : (xfld (xup ah x (.inr (6, [.int d, .long 0]))) x 6 1).isSome = true := by rw [xfld_of h1]; rfl
  have e2 : xput (xup ah x (.inr (6, [.int d, .long 0]))) x 1 (.long y) = xup ah x (.inr (6, [.int d, .long y])) := by rw [xput_of h1, xup_xup]; rfl
  simp (disch := omega) only [en15, e15_0, e15_0n, e15_1, e15_4, e15_4n, e15_5, e15_6, e15_9, e15_9n, e15_10, e15_11, e15_14, xKv, xK0, xKx, xKHv, xKH0, xk_none, xk_i, xk_f, xk_l, xk_r, xk_n, xc_i, xc_f, xc_l, xc_d, xc_r, xc_n, xo_some, List.map_cons, List.map_nil, List.sum_cons, List.sum_nil, xnzn, xpn0, xpn1, xpnb, xpnn, i10, i00, true_imp_iff, false_imp_iff, not_true_eq_false, not_false_eq_true, true_and, and_true, implies_true, xnz0, xnz1, xnzb, xfz0, xfz1, xfzb, Option.isSome_some, if_true, if_false, xbF, xbT, and_false, false_and, Nat.zero_le, Nat.reduceEqDiff, Nat.reduceLeDiff, Nat.reduceAdd, Nat.reduceSub, xiT, xiF, f0, e1, f1, e2]
theorem lp_layP {x : Int64} {d : Int32} (h20 : σ 20 0 ≤ 30) {k' n' : Nat} : ∀ (n i : Nat) (τc : xS) (ah : xH), i + n = σ 20 0 → CR κ A σ τc h0 ah → (∀ c j, c ≠ 31 → τc c j = τ c j) → (∀ q, q < i → ∀ c, c < 64 → (bt (lN (τc 31 q)) c ↔ bt (lN (τ 31 q)) c ∧ ¬ bt x c)) → (∀ q, i ≤ q → τc 31 q = τ 31 q) →
    (∀ (τc : xS) (ah : xH) (l4 : Option Value), CR κ A σ τc h0 ah → (∀ c j, c ≠ 31 → τc c j = τ c j) → (∀ q, q < σ 20 0 → ∀ c, c < 64 → (bt (lN (τc 31 q)) c ↔ bt (lN (τ 31 q)) c ∧ ¬ bt x c)) → xW (T16 κ) (xm κ) R (46, [some (.ref (A 8 0)), some (.long x), none, some (.int d), l4], [], ah, k', n')) →
    xW (T16 κ) (xm κ) R (3, [some (.ref (A 8 0)), some (.long x), none, some (.int d), some (.int (nI i))], [], ah, k', n') := by
  intro n
  induction n with
  | zero =>
    intro i τc ah hi h h1 h2 h3 hX
    have hi' : i = σ 20 0 := by omega
    subst hi'
    have f0 : xfld ah (A 8 0) 4 0 = some (.ref (A 9 0)) := xfld_of h.fr
    have hx : xis ah (A 9 0) 1 = True := xis_of h.patL.1
    rw [e16_3]
    simp (disch := omega) only [e16_5, e16_5n, e16_6, e16_9, e16_12, e16_15, e16_15n, e16_16, e16_19, e16_21, e16_24, e16_24n, e16_27, e16_27i, e16_28, e16_31, e16_32, e16_35, e16_36, e16_37, e16_40, e16_43, xKv, xK0, xKx, xKHv, xKH0, xk_none, xk_i, xk_f, xk_l, xk_r, xk_n, xc_i, xc_f, xc_l, xc_d, xc_r, xc_n, xo_some, List.map_cons, List.map_nil, List.sum_cons, List.sum_nil, xnzn, xpn0, xpn1, xpnb, xpnn, i10, i00, true_imp_iff, false_imp_iff, not_true_eq_false, not_false_eq_true, true_and, and_true, implies_true, xnz0, xnz1, xnzb, xfz0, xfz1, xfzb, Option.isSome_some, if_true, if_false, xbF, xbT, and_false, false_and, Nat.zero_le, Nat.reduceEqDiff, Nat.reduceLeDiff, Nat.reduceAdd, Nat.reduceSub, xiT, xiF, pk_mul, nI_add, Nat.add_sub_cancel, lad0, leq0, lle0, lge0, llt0, lgt0, leq1, lle1, lge1, llt1, lgt1, lad1, lsu1, leq2, lle2, lge2, llt2, lgt2, lmu2, lmv2, lad2, lsu2, ldi2, leq3, lle3, lge3, llt3, lgt3, lmu3, lmv3, lad3, lsu3, ldi3, leq4, lle4, lge4, llt4, lgt4, lmu4, lmv4, lad4, lsu4, ldi4, leq5, lle5, lge5, llt5, lgt5, lmu5, lmv5, lad5, lsu5, ldi5, leq6, lle6, lge6, llt6, lgt6, lmu6, lmv6, lad6, lsu6, ldi6, leq8, lle8, lge8, llt8, lgt8, lmu8, lmv8, lad8, lsu8, ldi8, leq9, lle9, lge9, llt9, lgt9, lmu9, lmv9, lad9, lsu9, ldi9, leq10, lle10, lge10, llt10, lgt10, lmu10, lmv10, lad10, lsu10, ldi10, leq12, lle12, lge12, llt12, lgt12, lmu12, lmv12, lad12, lsu12, ldi12, leq20, lle20, lge20, llt20, lgt20, lmu20, lmv20, lad20, lsu20, ldi20, leq25, lle25, lge25, llt25, lgt25, lmu25, lmv25, lad25, lsu25, ldi25, leq30, lle30, lge30, llt30, lgt30, lmu30, lmv30, lad30, lsu30, ldi30, leq48, lle48, lge48, llt48, lgt48, lmu48, lmv48, lad48, lsu48, ldi48, leq50, lle50, lge50, llt50, lgt50, lmu50, lmv50, lad50, lsu50, ldi50, leq99, lle99, lge99, llt99, lgt99, lmu99, lmv99, lad99, lsu99, ldi99, leq100, lle100, lge100, llt100, lgt100, lmu100, lmv100, lad100, lsu100, ldi100, leq2000, lle2000, lge2000, llt2000, lgt2000, lmu2000, lmv2000, lad2000, lsu2000, ldi2000, f0, hx, sp_lsize h.patL.1, xle, Nat.le_refl]
    exact hX τc ah _ h h1 h2
  | succ n ih =>
    intro i τc ah hi h h1 h2 h3 hX
    have f0 : xfld ah (A 8 0) 4 0 = some (.ref (A 9 0)) := xfld_of h.fr
    have hx : xis ah (A 9 0) 1 = True := xis_of h.patL.1
    have hp := h.patch (q := i) (by omega)
    have hx6 : xis ah (A 22 i) 6 = True := xis_of hp
    have f1 : xfld ah (A 22 i) 6 1 = some (.long (lN (τc 31 i))) := xfld_of hp
    obtain ⟨y, hy⟩ := lN_of (lN (τc 31 i) &&& (x ^^^ -1))
    have g1 := h.wrT (c := 31) (j := i) (v := y) (k := 22) (i := i) (by decide) (show i < σ 20 0 by omega) (fun k' hk => rwTN_31 hk) (fun i' hi hu => by
      unfold cC
      simp (disch := omega) only [su_ne])
    have ex : xput ah (A 22 i) 1 (.long (lN (τc 31 i) &&& (x ^^^ -1))) = xup ah (A 22 i) (cC κ A σ (su τc 31 i y) 22 i) := by
      rw [hy, xput_of hp]
      show _ = xup ah (A 22 i) (.inr (6, [.int (nI (σ 21 i)), .long (lN (su τc 31 i y 31 i))]))
      rw [su_eq]
      rfl
    have st := ih (i + 1) _ _ (by omega) g1 (fun c j hc => by rw [su_nr (fun q => hc q.symm)]; exact h1 c j hc) (fun q hq c hc => by
      by_cases e : q = i
      · subst e
        rw [su_eq, ← hy, bt_and, bt_not hc, h3 q (Nat.le_refl _)]
      · rw [su_ne (by omega)]
        exact h2 q (by omega) c hc) (fun q hq => by rw [su_ne (by omega)]; exact h3 q (by omega)) hX
    rw [e16_3]
    simp (disch := omega) only [e16_5, e16_5n, e16_6, e16_9, e16_12, e16_15, e16_15n, e16_16, e16_19, e16_21, e16_24, e16_24n, e16_27, e16_27i, e16_28, e16_31, e16_32, e16_35, e16_36, e16_37, e16_40, e16_43, xKv, xK0, xKx, xKHv, xKH0, xk_none, xk_i, xk_f, xk_l, xk_r, xk_n, xc_i, xc_f, xc_l, xc_d, xc_r, xc_n, xo_some, List.map_cons, List.map_nil, List.sum_cons, List.sum_nil, xnzn, xpn0, xpn1, xpnb, xpnn, i10, i00, true_imp_iff, false_imp_iff, not_true_eq_false, not_false_eq_true, true_and, and_true, implies_true, xnz0, xnz1, xnzb, xfz0, xfz1, xfzb, Option.isSome_some, if_true, if_false, xbF, xbT, and_false, false_and, Nat.zero_le, Nat.reduceEqDiff, Nat.reduceLeDiff, Nat.reduceAdd, Nat.reduceSub, xiT, xiF, pk_mul, nI_add, Nat.add_sub_cancel, lad0, leq0, lle0, lge0, llt0, lgt0, leq1, lle1, lge1, llt1, lgt1, lad1, lsu1, leq2, lle2, lge2, llt2, lgt2, lmu2, lmv2, lad2, lsu2, ldi2, leq3, lle3, lge3, llt3, lgt3, lmu3, lmv3, lad3, lsu3, ldi3, leq4, lle4, lge4, llt4, lgt4, lmu4, lmv4, lad4, lsu4, ldi4, leq5, lle5, lge5, llt5, lgt5, lmu5, lmv5, lad5, lsu5, ldi5, leq6, lle6, lge6, llt6, lgt6, lmu6, lmv6, lad6, lsu6, ldi6, leq8, lle8, lge8, llt8, lgt8, lmu8, lmv8, lad8, lsu8, ldi8, leq9, lle9, lge9, llt9, lgt9, lmu9, lmv9, lad9, lsu9, ldi9, leq10, lle10, lge10, llt10, lgt10, lmu10, lmv10, lad10, lsu10, ldi10, leq12, lle12, lge12, llt12, lgt12, lmu12, lmv12, lad12, lsu12, ldi12, leq20, lle20, lge20, llt20, lgt20, lmu20, lmv20, lad20, lsu20, ldi20, leq25, lle25, lge25, llt25, lgt25, lmu25, lmv25, lad25, lsu25, ldi25, leq30, lle30, lge30, llt30, lgt30, lmu30, lmv30, lad30, lsu30, ldi30, leq48, lle48, lge48, llt48, lgt48, lmu48, lmv48, lad48, lsu48, ldi48, leq50, lle50, lge50, llt50, lgt50, lmu50, lmv50, lad50, lsu50, ldi50, leq99, lle99, lge99, llt99, lgt99, lmu99, lmv99, lad99, lsu99, ldi99, leq100, lle100, lge100, llt100, lgt100, lmu100, lmv100, lad100, lsu100, ldi100, leq2000, lle2000, lge2000, llt2000, lgt2000, lmu2000, lmv2000, lad2000, lsu2000, ldi2000, f0, hx, sp_lsize h.patL.1, xle, leF, sp_lget h.patL, hx6, f1, ex]
    exact st
theorem sp_layP (h : CR κ A σ τ h0 ah) (h20 : σ 20 0 < 30) {x : Int64} {d : Nat}
    (hR : ∀ (A' τ' : xS) (ah' : xH), CR κ A' (su (su (fo (stc x 0) 48 0 σ) 21 (σ 20 0) d) 20 0 (σ 20 0 + 1)) τ' h0 ah' → (∀ c j, c ≠ 31 → c ≠ 32 → c ≠ 9 → c ≠ 10 → τ' c j = τ c j) → (∀ q, q < σ 20 0 → ∀ c, c < 64 → (bt (lN (τ' 31 q)) c ↔ bt (lN (τ 31 q)) c ∧ ¬ bt x c)) → lN (τ' 31 (σ 20 0)) = x → (∀ c, c < 64 → (bt (lN (τ' 32 0)) c ↔ bt (lN (τ 32 0)) c ∧ ¬ bt x c)) → (∀ k i, k ≠ 10 → k ≠ 22 → A' k i = A k i) → R (.inl none) ah') : xm κ 16 [.ref (A 8 0), .long x, .int (nI d)] ah R := by
  rw [en16]
  simp (disch := omega) only [e16_0, e16_1, xKv, xK0, xKx, xKHv, xKH0, xk_none, xk_i, xk_f, xk_l, xk_r, xk_n, xc_i, xc_f, xc_l, xc_d, xc_r, xc_n, xo_some, List.map_cons, List.map_nil, List.sum_cons, List.sum_nil, xnzn, xpn0, xpn1, xpnb, xpnn, i10, i00, true_imp_iff, false_imp_iff, not_true_eq_false, not_false_eq_true, true_and, and_true, implies_true, xnz0, xnz1, xnzb, xfz0, xfz1, xfzb, Option.isSome_some, if_true, if_false, xbF, xbT, and_false, false_and, Nat.zero_le, Nat.reduceEqDiff, Nat.reduceLeDiff, Nat.reduceAdd, Nat.reduceSub, xiT, xiF, pk_mul, nI_add, Nat.add_sub_cancel, lad0, leq0, lle0, lge0, llt0, lgt0, leq1, lle1, lge1, llt1, lgt1, lad1, lsu1, leq2, lle2, lge2, llt2, lgt2, lmu2, lmv2, lad2, lsu2, ldi2, leq3, lle3, lge3, llt3, lgt3, lmu3, lmv3, lad3, lsu3, ldi3, leq4, lle4, lge4, llt4, lgt4, lmu4, lmv4, lad4, lsu4, ldi4, leq5, lle5, lge5, llt5, lgt5, lmu5, lmv5, lad5, lsu5, ldi5, leq6, lle6, lge6, llt6, lgt6, lmu6, lmv6, lad6, lsu6, ldi6, leq8, lle8, lge8, llt8, lgt8, lmu8, lmv8, lad8, lsu8, ldi8, leq9, lle9, lge9, llt9, lgt9, lmu9, lmv9, lad9, lsu9, ldi9, leq10, lle10, lge10, llt10, lgt10, lmu10, lmv10, lad10, lsu10, ldi10, leq12, lle12, lge12, llt12, lgt12, lmu12, lmv12, lad12, lsu12, ldi12, leq20, lle20, lge20, llt20, lgt20, lmu20, lmv20, lad20, lsu20, ldi20, leq25, lle25, lge25, llt25, lgt25, lmu25, lmv25, lad25, lsu25, ldi25, leq30, lle30, lge30, llt30, lgt30, lmu30, lmv30, lad30, lsu30, ldi30, leq48, lle48, lge48, llt48, lgt48, lmu48, lmv48, lad48, lsu48, ldi48, leq50, lle50, lge50, llt50, lgt50, lmu50, lmv50, lad50, lsu50, ldi50, leq99, lle99, lge99, llt99, lgt99, lmu99, lmv99, lad99, lsu99, ldi99, leq100, lle100, lge100, llt100, lgt100, lmu100, lmv100, lad100, lsu100, ldi100, leq2000, lle2000, lge2000, llt2000, lgt2000, lmu2000, lmv2000, lad2000, lsu2000, ldi2000]
  refine lp_layP (by omega) (σ 20 0) 0 τ ah (Nat.zero_add _) h (fun _ _ _ => rfl) (fun q hq => by omega) (fun _ _ => rfl) (fun τc ah1 l4 c1 t1 t2 => ?_)
  rw [e16_46, e16_47, e16_48, e16_49, e16_50]
  refine ⟨⟨by decide, ⟨_, c1.fr⟩⟩, sp_setC c1 (v := 0) rfl (fun ah2 y c2 hy => ?_)⟩
  have e20 : fo (stc x 0) 48 0 σ 20 0 = σ 20 0 := by rw [fo_stc, xi_f (fun q => absurd q.1 (by decide))]
  have f0 : xfld ah2 (A 8 0) 4 0 = some (.ref (A 9 0)) := xfld_of c2.fr
  show xW _ _ _ _
  rw [e16_53, e16_54, f0, xo_some, e16_57]
  refine ⟨by decide, by decide, fun x0 hx0 => ?_⟩
  have hc0 : xup ah2 x0 (.inr (6, [.int 0, .long 0])) x0 = some (.inr (6, [.int 0, .long 0])) := xup_self _ _ _
  rw [e16_60, e16_61, e16_62, e16_63]
  refine ⟨⟨show (1 + (1 + 0) : Nat) ≤ 8 from by decide, trivial⟩, ?_⟩
  rw [sp_patchInit hc0, xup_xup]
  obtain ⟨xn, hxn⟩ := lN_of x
  have c3 := c2.fresh hx0 (.inr (6, [.int (nI d), .long x]))
  have hLL := c3.patL
  rw [e20] at hLL
  show xW _ _ _ _
  rw [e16_66]
  refine ⟨⟨by decide, ⟨_, hLL.1⟩, by decide, by decide⟩, sp_ladd hLL (by omega) ⟨6, _, by decide, xup_self _ _ _⟩ (fun i hi => ⟨6, _, by decide, c3.patch (by rw [e20]; exact hi)⟩) (fun e' M ah' q1 q2 q3 q4 q5 q6 q7 => ?_)⟩
  show xW _ _ _ _
  rw [e16_69i, e16_70]
  rw [hxn] at q1 q7
  refine hR _ _ ah' (c2.addQ hx0 e20 q1 q2 q3 q4 q5 q6 q7) (fun c j n1 n2 n3 n4 => ?_) (fun q hq c hc => ?_) ?_ (fun c hc => ?_) (fun k i n1 n2 => ?_)
  · rw [su_nr (fun q => n3 q.symm), su_nr (fun q => n4 q.symm), su_nr (fun q => n1 q.symm), su_nr (fun q => n2 q.symm)]
    exact t1 c j n1
  · rw [su_nr (by decide), su_nr (by decide), su_ne (by omega), su_nr (by decide)]
    exact t2 q hq c hc
  · rw [su_nr (by decide), su_nr (by decide), su_eq, hxn]
  · rw [su_nr (by decide), su_nr (by decide), su_nr (by decide), su_eq]
    have := hy c hc
    rw [if_pos rfl, t1 32 0 (by decide)] at this
    exact this
  · rw [su_nr (fun q => n1 q.symm), su_nr (fun q => n2 q.symm)]
theorem sp_pcnt (h : CR κ A σ τ h0 ah) : xm κ 11 [.ref (A 8 0)] ah R ↔ R (.inl (some (.int (nI (σ 20 0))))) ah := by
  have f0 : xfld ah (A 8 0) 4 0 = some (.ref (A 9 0)) := xfld_of h.fr
  have hx : xis ah (A 9 0) 1 = True := xis_of h.patL.1
  simp (disch := omega) only [en11, e11_0, e11_0n, e11_1, e11_4, e11_7, xKv, xK0, xKx, xKHv, xKH0, xk_none, xk_i, xk_f, xk_l, xk_r, xk_n, xc_i, xc_f, xc_l, xc_d, xc_r, xc_n, xo_some, List.map_cons, List.map_nil, List.sum_cons, List.sum_nil, xnzn, xpn0, xpn1, xpnb, xpnn, i10, i00, true_imp_iff, false_imp_iff, not_true_eq_false, not_false_eq_true, true_and, and_true, implies_true, xnz0, xnz1, xnzb, xfz0, xfz1, xfzb, Option.isSome_some, if_true, if_false, xbF, xbT, and_false, false_and, Nat.zero_le, Nat.reduceEqDiff, Nat.reduceLeDiff, Nat.reduceAdd, Nat.reduceSub, xiT, xiF, f0, hx, sp_lsize h.patL.1]
theorem sp_c_patch (h : CR κ A σ τ h0 ah) (hI : MI σ) (hL : LK σ τ) {x : Int64} (hR : t_patch σ x = 0 → Ny κ A (s_patch σ x) τ h0 R (some (.int (v_patch σ x)))) (h1 : t_patch σ x = 1 → R (.inr 0) ah) (h2 : t_patch σ x = 2 → R (.inr 1) ah) : xm κ 80 [.ref (A 0 0), .long x] ah R := by
  have hQ := hI.Q
  have f3 : xfld ah (A 0 0) 10 3 = some (.ref (A 8 0)) := xfld_of h.x
  have f4 : xfld ah (A 0 0) 10 4 = some (.int (nI (σ 0 0))) := xfld_of h.x
  have hx4 : xis ah (A 8 0) 4 = True := xis_of h.fr
  by_cases hx : x &&& 281474976710655 = 0
  · have ht : t_patch σ x = 1 := by unfold t_patch; rw [xi_t hx]
    have hx' : (x &&& 281474976710655 = 0) = True := eq_true hx
    simp (disch := omega) only [e80_0, e80_1, e80_4, e80_5, e80_6, e80_7, e80_10, en80, xKv, xK0, xKx, xKHv, xKH0, xk_none, xk_i, xk_f, xk_l, xk_r, xk_n, xc_i, xc_f, xc_l, xc_d, xc_r, xc_n, xo_some, List.map_cons, List.map_nil, List.sum_cons, List.sum_nil, xnzn, xpn0, xpn1, xpnb, xpnn, i10, i00, true_imp_iff, false_imp_iff, not_true_eq_false, not_false_eq_true, true_and, and_true, implies_true, xnz0, xnz1, xnzb, xfz0, xfz1, xfzb, Option.isSome_some, if_true, if_false, xbF, xbT, and_false, false_and, Nat.zero_le, Nat.reduceEqDiff, Nat.reduceLeDiff, Nat.reduceAdd, Nat.reduceSub, xiT, xiF, pk_mul, nI_add, Nat.add_sub_cancel, lad0, leq0, lle0, lge0, llt0, lgt0, leq1, lle1, lge1, llt1, lgt1, lad1, lsu1, leq2, lle2, lge2, llt2, lgt2, lmu2, lmv2, lad2, lsu2, ldi2, leq3, lle3, lge3, llt3, lgt3, lmu3, lmv3, lad3, lsu3, ldi3, leq4, lle4, lge4, llt4, lgt4, lmu4, lmv4, lad4, lsu4, ldi4, leq5, lle5, lge5, llt5, lgt5, lmu5, lmv5, lad5, lsu5, ldi5, leq6, lle6, lge6, llt6, lgt6, lmu6, lmv6, lad6, lsu6, ldi6, leq8, lle8, lge8, llt8, lgt8, lmu8, lmv8, lad8, lsu8, ldi8, leq9, lle9, lge9, llt9, lgt9, lmu9, lmv9, lad9, lsu9, ldi9, leq10, lle10, lge10, llt10, lgt10, lmu10, lmv10, lad10, lsu10, ldi10, leq12, lle12, lge12, llt12, lgt12, lmu12, lmv12, lad12, lsu12, ldi12, leq20, lle20, lge20, llt20, lgt20, lmu20, lmv20, lad20, lsu20, ldi20, leq25, lle25, lge25, llt25, lgt25, lmu25, lmv25, lad25, lsu25, ldi25, leq30, lle30, lge30, llt30, lgt30, lmu30, lmv30, lad30, lsu30, ldi30, leq48, lle48, lge48, llt48, lgt48, lmu48, lmv48, lad48, lsu48, ldi48, leq50, lle50, lge50, llt50, lgt50, lmu50, lmv50, lad50, lsu50, ldi50, leq99, lle99, lge99, llt99, lgt99, lmu99, lmv99, lad99, lsu99, ldi99, leq100, lle100, lge100, llt100, lgt100, lmu100, lmv100, lad100, lsu100, ldi100, leq2000, lle2000, lge2000, llt2000, lgt2000, lmu2000, lmv2000, lad2000, lsu2000, ldi2000, lg_cmp_eq, hx']
    exact h1 ht
  · by_cases hp : σ 20 0 = 30
    · have ht : t_patch σ x = 2 := by unfold t_patch; rw [xi_f hx, xi_t hp]
      simp (disch := omega) only [e80_0, e80_1, e80_4, e80_5, e80_6, e80_7, e80_10, e80_21, e80_21n, e80_22, e80_25, e80_28, e80_30, e80_33, en80, xKv, xK0, xKx, xKHv, xKH0, xk_none, xk_i, xk_f, xk_l, xk_r, xk_n, xc_i, xc_f, xc_l, xc_d, xc_r, xc_n, xo_some, List.map_cons, List.map_nil, List.sum_cons, List.sum_nil, xnzn, xpn0, xpn1, xpnb, xpnn, i10, i00, true_imp_iff, false_imp_iff, not_true_eq_false, not_false_eq_true, true_and, and_true, implies_true, xnz0, xnz1, xnzb, xfz0, xfz1, xfzb, Option.isSome_some, if_true, if_false, xbF, xbT, and_false, false_and, Nat.zero_le, Nat.reduceEqDiff, Nat.reduceLeDiff, Nat.reduceAdd, Nat.reduceSub, xiT, xiF, pk_mul, nI_add, Nat.add_sub_cancel, lad0, leq0, lle0, lge0, llt0, lgt0, leq1, lle1, lge1, llt1, lgt1, lad1, lsu1, leq2, lle2, lge2, llt2, lgt2, lmu2, lmv2, lad2, lsu2, ldi2, leq3, lle3, lge3, llt3, lgt3, lmu3, lmv3, lad3, lsu3, ldi3, leq4, lle4, lge4, llt4, lgt4, lmu4, lmv4, lad4, lsu4, ldi4, leq5, lle5, lge5, llt5, lgt5, lmu5, lmv5, lad5, lsu5, ldi5, leq6, lle6, lge6, llt6, lgt6, lmu6, lmv6, lad6, lsu6, ldi6, leq8, lle8, lge8, llt8, lgt8, lmu8, lmv8, lad8, lsu8, ldi8, leq9, lle9, lge9, llt9, lgt9, lmu9, lmv9, lad9, lsu9, ldi9, leq10, lle10, lge10, llt10, lgt10, lmu10, lmv10, lad10, lsu10, ldi10, leq12, lle12, lge12, llt12, lgt12, lmu12, lmv12, lad12, lsu12, ldi12, leq20, lle20, lge20, llt20, lgt20, lmu20, lmv20, lad20, lsu20, ldi20, leq25, lle25, lge25, llt25, lgt25, lmu25, lmv25, lad25, lsu25, ldi25, leq30, lle30, lge30, llt30, lgt30, lmu30, lmv30, lad30, lsu30, ldi30, leq48, lle48, lge48, llt48, lgt48, lmu48, lmv48, lad48, lsu48, ldi48, leq50, lle50, lge50, llt50, lgt50, lmu50, lmv50, lad50, lsu50, ldi50, leq99, lle99, lge99, llt99, lgt99, lmu99, lmv99, lad99, lsu99, ldi99, leq100, lle100, lge100, llt100, lgt100, lmu100, lmv100, lad100, lsu100, ldi100, leq2000, lle2000, lge2000, llt2000, lgt2000, lmu2000, lmv2000, lad2000, lsu2000, ldi2000, lg_cmp_eq, hx, f3, hx4, sp_pcnt h, ltF]
      exact h2 ht
    · have ht : t_patch σ x = 0 := by unfold t_patch; rw [xi_f hx, xi_f hp]
      have hg := hR ht
      unfold s_patch v_patch at hg
      rw [xi_t ht, xi_t ht] at hg
      simp (disch := omega) only [e80_0, e80_1, e80_4, e80_5, e80_6, e80_7, e80_10, e80_21, e80_21n, e80_22, e80_25, e80_28, e80_30, e80_33, e80_44, e80_44n, e80_45, e80_48, e80_49, e80_52, e80_53, e80_53n, e80_54, en80, xKv, xK0, xKx, xKHv, xKH0, xk_none, xk_i, xk_f, xk_l, xk_r, xk_n, xc_i, xc_f, xc_l, xc_d, xc_r, xc_n, xo_some, List.map_cons, List.map_nil, List.sum_cons, List.sum_nil, xnzn, xpn0, xpn1, xpnb, xpnn, i10, i00, true_imp_iff, false_imp_iff, not_true_eq_false, not_false_eq_true, true_and, and_true, implies_true, xnz0, xnz1, xnzb, xfz0, xfz1, xfzb, Option.isSome_some, if_true, if_false, xbF, xbT, and_false, false_and, Nat.zero_le, Nat.reduceEqDiff, Nat.reduceLeDiff, Nat.reduceAdd, Nat.reduceSub, xiT, xiF, pk_mul, nI_add, Nat.add_sub_cancel, lad0, leq0, lle0, lge0, llt0, lgt0, leq1, lle1, lge1, llt1, lgt1, lad1, lsu1, leq2, lle2, lge2, llt2, lgt2, lmu2, lmv2, lad2, lsu2, ldi2, leq3, lle3, lge3, llt3, lgt3, lmu3, lmv3, lad3, lsu3, ldi3, leq4, lle4, lge4, llt4, lgt4, lmu4, lmv4, lad4, lsu4, ldi4, leq5, lle5, lge5, llt5, lgt5, lmu5, lmv5, lad5, lsu5, ldi5, leq6, lle6, lge6, llt6, lgt6, lmu6, lmv6, lad6, lsu6, ldi6, leq8, lle8, lge8, llt8, lgt8, lmu8, lmv8, lad8, lsu8, ldi8, leq9, lle9, lge9, llt9, lgt9, lmu9, lmv9, lad9, lsu9, ldi9, leq10, lle10, lge10, llt10, lgt10, lmu10, lmv10, lad10, lsu10, ldi10, leq12, lle12, lge12, llt12, lgt12, lmu12, lmv12, lad12, lsu12, ldi12, leq20, lle20, lge20, llt20, lgt20, lmu20, lmv20, lad20, lsu20, ldi20, leq25, lle25, lge25, llt25, lgt25, lmu25, lmv25, lad25, lsu25, ldi25, leq30, lle30, lge30, llt30, lgt30, lmu30, lmv30, lad30, lsu30, ldi30, leq48, lle48, lge48, llt48, lgt48, lmu48, lmv48, lad48, lsu48, ldi48, leq50, lle50, lge50, llt50, lgt50, lmu50, lmv50, lad50, lsu50, ldi50, leq99, lle99, lge99, llt99, lgt99, lmu99, lmv99, lad99, lsu99, ldi99, leq100, lle100, lge100, llt100, lgt100, lmu100, lmv100, lad100, lsu100, ldi100, leq2000, lle2000, lge2000, llt2000, lgt2000, lmu2000, lmv2000, lad2000, lsu2000, ldi2000, lg_cmp_eq, hx, f3, hx4, sp_pcnt h, ltT, f4]
      rw [e80_57]
      refine ⟨⟨by decide, ⟨_, h.fr⟩, by decide, by decide⟩, sp_layP h (by omega) (fun A' τ' ah' c1 t1 t2 t3 t4 t5 => ?_)⟩
      have eA0 : A' 0 0 = A 0 0 := t5 0 0 (by decide) (by decide)
      have eA8 : A' 8 0 = A 8 0 := t5 8 0 (by decide) (by decide)
      have f3' : xfld ah' (A 0 0) 10 3 = some (.ref (A 8 0)) := by
        have := c1.x
        rw [eA0] at this
        rw [xfld_of this, ← eA8]
        rfl
      have hx4' : xis ah' (A 8 0) 4 = True := by rw [← eA8]; exact xis_of c1.fr
      have q := fun R => sp_pcnt (R := R) c1
      rw [su_eq, eA8] at q
      show xW _ _ _ _
      simp (disch := omega) only [e80_60, e80_60n, e80_61, e80_64, e80_67, e80_68, e80_69, xKv, xK0, xKx, xKHv, xKH0, xk_none, xk_i, xk_f, xk_l, xk_r, xk_n, xc_i, xc_f, xc_l, xc_d, xc_r, xc_n, xo_some, List.map_cons, List.map_nil, List.sum_cons, List.sum_nil, xnzn, xpn0, xpn1, xpnb, xpnn, i10, i00, true_imp_iff, false_imp_iff, not_true_eq_false, not_false_eq_true, true_and, and_true, implies_true, xnz0, xnz1, xnzb, xfz0, xfz1, xfzb, Option.isSome_some, if_true, if_false, xbF, xbT, and_false, false_and, Nat.zero_le, Nat.reduceEqDiff, Nat.reduceLeDiff, Nat.reduceAdd, Nat.reduceSub, xiT, xiF, pk_mul, nI_add, Nat.add_sub_cancel, lad0, leq0, lle0, lge0, llt0, lgt0, leq1, lle1, lge1, llt1, lgt1, lad1, lsu1, leq2, lle2, lge2, llt2, lgt2, lmu2, lmv2, lad2, lsu2, ldi2, leq3, lle3, lge3, llt3, lgt3, lmu3, lmv3, lad3, lsu3, ldi3, leq4, lle4, lge4, llt4, lgt4, lmu4, lmv4, lad4, lsu4, ldi4, leq5, lle5, lge5, llt5, lgt5, lmu5, lmv5, lad5, lsu5, ldi5, leq6, lle6, lge6, llt6, lgt6, lmu6, lmv6, lad6, lsu6, ldi6, leq8, lle8, lge8, llt8, lgt8, lmu8, lmv8, lad8, lsu8, ldi8, leq9, lle9, lge9, llt9, lgt9, lmu9, lmv9, lad9, lsu9, ldi9, leq10, lle10, lge10, llt10, lgt10, lmu10, lmv10, lad10, lsu10, ldi10, leq12, lle12, lge12, llt12, lgt12, lmu12, lmv12, lad12, lsu12, ldi12, leq20, lle20, lge20, llt20, lgt20, lmu20, lmv20, lad20, lsu20, ldi20, leq25, lle25, lge25, llt25, lgt25, lmu25, lmv25, lad25, lsu25, ldi25, leq30, lle30, lge30, llt30, lgt30, lmu30, lmv30, lad30, lsu30, ldi30, leq48, lle48, lge48, llt48, lgt48, lmu48, lmv48, lad48, lsu48, ldi48, leq50, lle50, lge50, llt50, lgt50, lmu50, lmv50, lad50, lsu50, ldi50, leq99, lle99, lge99, llt99, lgt99, lmu99, lmv99, lad99, lsu99, ldi99, leq100, lle100, lge100, llt100, lgt100, lmu100, lmv100, lad100, lsu100, ldi100, leq2000, lle2000, lge2000, llt2000, lgt2000, lmu2000, lmv2000, lad2000, lsu2000, ldi2000, f3', hx4', q]
      have c2 : CR κ A' (su (su (fo (pc1 x (σ 20 0)) 48 0 σ) 21 (σ 20 0) (σ 0 0)) 20 0 (σ 20 0 + 1)) τ' h0 ah' := c1.cgr (fun c i hc => by
        simp only [List.mem_cons, List.not_mem_nil, not_or, or_false] at hc
        by_cases e20 : c = 20 ∧ i = 0
        · rw [e20.1, e20.2, su_eq, su_eq]
        · rw [su_ne e20, su_ne e20]
          by_cases e21 : c = 21 ∧ i = σ 20 0
          · rw [e21.1, e21.2, su_eq, su_eq]
          · rw [su_ne e21, su_ne e21, fo_pc1x, fo_stc]
            by_cases e23 : c = 23 ∧ i < 48 ∧ bt x i
            · obtain ⟨q1, q2, q3⟩ := e23
              rw [xi_t ⟨Or.inr (Or.inl q1), by omega, by omega, q3⟩, xi_t ⟨q1, by omega, by omega, (bt_all (by omega)).mpr ⟨q3, q2⟩⟩, if_neg (by omega)]
            · rw [xi_f (fun q => e23 ⟨by omega, by omega, q.2.2.2⟩), xi_f (fun q => e23 ⟨q.1, by omega, ((bt_all (by omega)).mp q.2.2.2).1⟩)])
      refine hg A' τ' ah' c2 ⟨LKp_cg hL.1 (fun c i hc => ?_) (fun i => t1 30 i (by decide) (by decide) (by decide) (by decide)), LKg_cg hL.2.1 (fun i => ?_) (fun c i hc => t1 c i (by omega) (by omega) (by omega) (by omega)), ⟨fun q hq j hj => ?_, fun j hj => ?_⟩⟩ (by rw [t1 33 0 (by decide) (by decide) (by decide) (by decide)]; omega) eA0
      · rw [su_nr (by omega), su_nr (by omega), fo_pc1_o (by omega)]
      · rw [su_nr (by omega), su_nr (by omega), fo_pc1_o (by omega)]
      · rw [su_eq] at hq
        rw [su_nr (by decide), su_nr (by decide), fo_pc1x]
        by_cases eq : q = σ 20 0
        · subst eq
          rw [t3, bt_all hj]
          by_cases hb : j < 48 ∧ bt x j
          · rw [xi_t ⟨Or.inl rfl, by omega, by omega, hb.2⟩, if_pos rfl]
            exact ⟨fun _ => ⟨hb.1, rfl⟩, fun _ => ⟨hb.2, hb.1⟩⟩
          · rw [xi_f (fun q => hb ⟨by omega, q.2.2.2⟩)]
            refine ⟨fun q => absurd ⟨q.2, q.1⟩ hb, fun q => ?_⟩
            have := (hI.cell q.1).1
            omega
        · rw [t2 q (by omega) j hj, hL.2.2.1 q (by omega) j hj, bt_all hj]
          by_cases hb : j < 48 ∧ bt x j
          · rw [xi_t ⟨Or.inl rfl, by omega, by omega, hb.2⟩, if_pos rfl]
            exact ⟨fun q => absurd ⟨hb.2, hb.1⟩ q.2, fun q => by omega⟩
          · rw [xi_f (fun q => hb ⟨by omega, q.2.2.2⟩)]
            exact ⟨fun q => q.1, fun q => ⟨q, fun q' => hb ⟨q'.2, q'.1⟩⟩⟩
      · rw [su_nr (by decide), su_nr (by decide), fo_pc1x, t4 j hj, hL.2.2.2 j hj, bt_all hj]
        by_cases hb : j < 48 ∧ bt x j
        · rw [xi_t ⟨Or.inr (Or.inr rfl), by omega, by omega, hb.2⟩, if_neg (by decide)]
          exact ⟨fun q => absurd ⟨hb.2, hb.1⟩ q.2, fun q => by omega⟩
        · rw [xi_f (fun q => hb ⟨by omega, q.2.2.2⟩)]
          exact ⟨fun q => q.1, fun q => ⟨q, fun q' => hb ⟨q'.2, q'.1⟩⟩⟩
end

