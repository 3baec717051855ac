/-! the class: a new wall -/
def sw (σ : xS) (w g i : Nat) : xS := su (su (su σ 4 w i) 5 w g) 3 0 (w + 1)
theorem sw_o {σ : xS} {w g i c j : Nat} (h : c ≠ 3 ∧ c ≠ 4 ∧ c ≠ 5) : sw σ w g i c j = σ c j := by unfold sw; simp (disch := omega) only [su_ne]
theorem sw_3 {σ : xS} {w g i : Nat} : sw σ w g i 3 0 = w + 1 := su_eq
theorem sw_4 {σ : xS} {w g i : Nat} : sw σ w g i 4 w = i := by unfold sw; simp (disch := omega) only [su_ne, su_eq]
theorem sw_4n {σ : xS} {w g i j : Nat} (h : j ≠ w) : sw σ w g i 4 j = σ 4 j := by unfold sw; simp (disch := omega) only [su_ne]
theorem sw_5 {σ : xS} {w g i : Nat} : sw σ w g i 5 w = g := by unfold sw; simp (disch := omega) only [su_ne, su_eq]
theorem sw_5n {σ : xS} {w g i j : Nat} (h : j ≠ w) : sw σ w g i 5 j = σ 5 j := by unfold sw; simp (disch := omega) only [su_ne]
def ZI (σ : xS) : Prop := (∀ w, σ 3 0 ≤ w → w < 10 → σ 6 w = 0) ∧ (∀ w s, w < 10 → s < 12 → ¬ (w < σ 3 0 ∧ s < σ 4 w) → σ 7 (12 * w + s) = 0)
def pC (κ : Nat → Nat) (A σ τ : xS) (w g i : Nat) (k j : Nat) : xO := if k = 1 then lcell (nI (τ 1 0)) (rwA κ A τ 1 0) w else if k = 2 then rcell (τ 2 0) w (fun j => A 13 j) else cC κ A (sw σ w g i) τ k j
def PWR (κ : Nat → Nat) (A σ τ : xS) (w g i : Nat) (h0 ah : xH) : Prop := HR A (cU (sw σ w g i) τ) (pC κ A σ τ w g i) h0 ah ∧ lw (τ 15 w) i
section
variable {κ : Nat → Nat} {R : xR → xH → Prop} {A σ τ : xS} {h0 ah : xH}
theorem sp_listInit {l : Nat} (h : ah l = some (.inr (1, [.int 0, .null, .int 0]))) : xm κ 130 [.ref l] ah R ↔ R (.inl none) (xup ah l (lcell 0 (κ 9) 0)) := by
  have f0 : (xfld ah l 1 0).isSome = true := by rw [xfld_of h]; rfl
  have e0 : xput ah l 0 (.int 0) = xup ah l (.inr (1, [.int 0, .null, .int 0])) := xput_of h
  have h1 : xup ah l (.inr (1, [.int 0, .null, .int 0])) l = some (.inr (1, [.int 0, .null, .int 0])) := xup_self _ _ _
  have f1 : (xfld (xup ah l (.inr (1, [.int 0, .null, .int 0]))) l 1 1).isSome = true := by rw [xfld_of h1]; rfl
  have e1 : xput (xup ah l (.inr (1, [.int 0, .null, .int 0]))) l 1 (.ref (κ 9)) = xup ah l (lcell 0 (κ 9) 0) := by rw [xput_of h1, xup_xup]; rfl
  simp (disch := omega) only [en130, e130_0, e130_0n, e130_1, e130_4, e130_4n, e130_5, e130_8, e130_11, en135, e135_0, e135_0n, e135_1, e135_4, e135_4n, e135_5, e135_6, e135_9, en134, e134_0, e134_0n, e134_1, e134_4, xKv, xK0, xKx, xKHv, xKH0, xk_none, xk_i, xk_f, xk_l, xk_r, xk_n, xc_i, xc_f, xc_l, xc_d, xc_r, xc_n, xo_some, List.map_cons, List.map_nil, List.sum_cons, List.sum_nil, xnzn, xpn0, xpn1, xpnb, xpnn, i10, i00, true_imp_iff, false_imp_iff, not_true_eq_false, not_false_eq_true, true_and, and_true, implies_true, xnz0, xnz1, xnzb, xfz0, xfz1, xfzb, Option.isSome_some, if_true, if_false, xbF, xbT, and_false, false_and, Nat.zero_le, Nat.reduceEqDiff, Nat.reduceLeDiff, Nat.reduceAdd, Nat.reduceSub, xiT, xiF, f0, e0, f1, e1]
theorem sp_stripInit {s q : Nat} (h : ah s = some (.inr (8, [.null, .null, .int 0]))) (hR : ∀ l, ah l = none → R (.inl none) (xup (xup ah l (lcell 0 (κ 9) 0)) s (.inr (8, [.ref q, .ref l, .int 0])))) : xm κ 30 [.ref s, .ref q] ah R := by
  have f0 : (xfld ah s 8 0).isSome = true := by rw [xfld_of h]; rfl
  have e0 : xput ah s 0 (.ref q) = xup ah s (.inr (8, [.ref q, .null, .int 0])) := xput_of h
  rw [en30]
  simp (disch := omega) only [e30_0, e30_0n, e30_1, e30_4, e30_4n, e30_5, e30_5n, e30_6, e30_9, e30_9n, xKv, xK0, xKx, xKHv, xKH0, xk_none, xk_i, xk_f, xk_l, xk_r, xk_n, xc_i, xc_f, xc_l, xc_d, xc_r, xc_n, xo_some, List.map_cons, List.map_nil, List.sum_cons, List.sum_nil, xnzn, xpn0, xpn1, xpnb, xpnn, i10, i00, true_imp_iff, false_imp_iff, not_true_eq_false, not_false_eq_true, true_and, and_true, implies_true, xnz0, xnz1, xnzb, xfz0, xfz1, xfzb, Option.isSome_some, if_true, if_false, xbF, xbT, and_false, false_and, Nat.zero_le, Nat.reduceEqDiff, Nat.reduceLeDiff, Nat.reduceAdd, Nat.reduceSub, xiT, xiF, f0, e0]
  rw [e30_10]
  refine ⟨by decide, by decide, fun l hl => ?_⟩
  have hsl : s ≠ l := xis_ne (xup_self ah s (.inr (8, [.ref q, .null, .int 0]))) hl
  have hl0 : ah l = none := by rw [xup_ne _ _ (fun q => hsl q.symm)] at hl; exact hl
  rw [e30_13, e30_14]
  refine ⟨⟨show (1 + (1 + 0) : Nat) ≤ 8 from by decide, trivial⟩, (sp_listInit (xup_self _ _ _)).mpr ?_⟩
  have h1 : xup (xup (xup ah s (.inr (8, [.ref q, .null, .int 0]))) l (.inr (1, [.int 0, .null, .int 0]))) l (lcell 0 (κ 9) 0) s = some (.inr (8, [.ref q, .null, .int 0])) := by rw [xup_ne _ _ hsl, xup_ne _ _ hsl, xup_self]
  show xW _ _ _ _
  rw [e30_17]
  refine ⟨by rw [xfld_of h1]; rfl, ?_⟩
  have ex : xput (xup (xup (xup ah s (.inr (8, [.ref q, .null, .int 0]))) l (.inr (1, [.int 0, .null, .int 0]))) l (lcell 0 (κ 9) 0)) s 1 (.ref l) = xup (xup ah l (lcell 0 (κ 9) 0)) s (.inr (8, [.ref q, .ref l, .int 0])) := by
    rw [xput_of h1, xup_xup, xup_cm hsl, xup_xup]
    rfl
  rw [e30_20, ex]
  exact hR l hl0
theorem sv_sw {w g i a : Nat} (hw : σ 3 0 = w) : sv (sw σ w g i) a ↔ (a / 12 = w ∧ a % 12 < i) ∨ sv σ a := by
  unfold sv
  rw [sw_3, hw]
  by_cases e : a / 12 = w
  · rw [e, sw_4]
    exact ⟨fun q => Or.inl ⟨rfl, q.2⟩, fun q => q.elim (fun q => ⟨by omega, q.2⟩) (fun q => by omega)⟩
  · rw [sw_4n e]
    exact ⟨fun q => Or.inr ⟨by omega, q.2⟩, fun q => q.elim (fun q => absurd q.1 e) (fun q => ⟨by omega, q.2⟩)⟩
theorem PW0 (h : CR κ A σ τ h0 ah) (hI : MI σ) (hZ : ZI σ) {w g x l : Nat} (hw : σ 3 0 = w) (hw10 : w < 10) (hl : ah l = none) (hx : ah x = none) (hxl : x ≠ l) :
    PWR κ (su (su A 14 w l) 13 w x) σ (su (su τ 14 w 0) 15 w 0) w g 0 h0 (xup (xup ah l (lcell 0 (κ 9) 0)) x (.inr (9, [.ref l, .int 0]))) := by
  have g1 := h.1.nw (k := 14) (i := w) hl (show ¬ w < σ 3 0 by omega) (lcell 0 (κ 9) 0)
  have g2 := g1.nw (k := 13) (i := w) (x := x) (by rw [xup_ne _ _ hxl]; exact hx) (fun q => q.elim (fun q => absurd q.1 (by decide)) (show ¬ w < σ 3 0 by omega)) (.inr (9, [.ref l, .int 0]))
  refine ⟨g2.cg (fun k j hu => ?_) (fun _ _ _ => rfl) (fun k j hu => ?_), Or.inl ⟨su_eq, rfl⟩⟩
  · by_cases e13 : k = 13
    · subst e13
      have q : j < sw σ w g 0 3 0 := hu
      rw [sw_3] at q
      by_cases ej : j = w
      · exact Or.inl ⟨rfl, ej⟩
      · exact Or.inr (Or.inr (show j < σ 3 0 by omega))
    · by_cases e14 : k = 14
      · subst e14
        have q : j < sw σ w g 0 3 0 := hu
        rw [sw_3] at q
        by_cases ej : j = w
        · exact Or.inr (Or.inl ⟨rfl, ej⟩)
        · exact Or.inr (Or.inr (show j < σ 3 0 by omega))
      · refine Or.inr (Or.inr ?_)
        by_cases e15 : k = 15
        · subst e15
          have q : j < sw σ w g 0 3 0 ∧ ¬ su (su τ 14 w 0) 15 w 0 15 j = 0 := hu
          rw [sw_3] at q
          by_cases ej : j = w
          · subst ej
            rw [su_eq] at q
            exact absurd rfl q.2
          · rw [su_ne (by omega), su_nr (by decide)] at q
            exact ⟨by omega, q.2⟩
        · have lsv : ∀ a, sv (sw σ w g 0) a → sv σ a := fun a q => ((sv_sw hw).mp q).elim (fun q => by omega) id
          unfold cU at hu ⊢
          split at hu <;> first | exact hu | (simp (disch := omega) only [su_nr, sw_o] at hu ⊢ <;> first | exact hu | exact lsv _ hu | exact ⟨lsv _ hu.1, hu.2⟩) | exact lsv _ hu | omega
  · unfold cu pC
    by_cases e1 : k = 1
    · subst e1
      rw [if_pos rfl, if_neg (fun q => absurd q.1 (by decide)), if_neg (fun q => absurd q.1 (by decide))]
      show lcell (nI (su (su τ 14 w 0) 15 w 0 1 0)) (rwA κ (su (su A 14 w l) 13 w x) (su (su τ 14 w 0) 15 w 0) 1 0) w = lcell (nI (τ 1 0)) (rwA κ A τ 1 0) (σ 3 0)
      unfold rwA
      rw [hw]
      simp (disch := omega) only [su_ne]
    · rw [if_neg e1]
      by_cases e2 : k = 2
      · subst e2
        rw [if_pos rfl, if_neg (fun q => absurd q.1 (by decide)), if_neg (fun q => absurd q.1 (by decide))]
        show rcell (su (su τ 14 w 0) 15 w 0 2 0) w (fun j => su (su A 14 w l) 13 w x 13 j) = rcell (τ 2 0) (σ 3 0) (fun j => A 13 j)
        rw [hw, su_nr (by decide), su_nr (by decide)]
        exact rcell_cg (fun j hj => by rw [su_ne (by omega), su_nr (by decide)])
      · rw [if_neg e2]
        by_cases e13 : k = 13
        · subst e13
          by_cases ej : j = w
          · subst ej
            rw [if_pos ⟨rfl, rfl⟩]
            show (Sum.inr (9, [.ref (su (su A 14 j l) 13 j x 14 j), .int (nI (sw σ j g 0 6 j))]) : xO) = _
            rw [su_nr (by decide), su_eq, sw_o (by decide), hZ.1 j (by omega) hw10]
            rfl
          · rw [if_neg (fun q => ej q.2), if_neg (fun q => absurd q.1 (by decide))]
            show (Sum.inr (9, [.ref (su (su A 14 w l) 13 w x 14 j), .int (nI (sw σ w g 0 6 j))]) : xO) = Sum.inr (9, [.ref (A 14 j), .int (nI (σ 6 j))])
            rw [su_nr (by decide), su_ne (by omega), sw_o (by decide)]
        · rw [if_neg (fun q => e13 q.1)]
          by_cases e14 : k = 14
          · subst e14
            by_cases ej : j = w
            · subst ej
              rw [if_pos ⟨rfl, rfl⟩]
              show lcell (nI (su (su τ 14 j 0) 15 j 0 14 j)) (rwA κ (su (su A 14 j l) 13 j x) (su (su τ 14 j 0) 15 j 0) 14 j) (sw σ j g 0 4 j) = _
              unfold rwA
              rw [su_nr (by decide), su_eq, su_eq, if_pos rfl, sw_4]
              rfl
            · rw [if_neg (fun q => ej q.2)]
              show lcell (nI (su (su τ 14 w 0) 15 w 0 14 j)) (rwA κ (su (su A 14 w l) 13 w x) (su (su τ 14 w 0) 15 w 0) 14 j) (sw σ w g 0 4 j) = lcell (nI (τ 14 j)) (rwA κ A τ 14 j) (σ 4 j)
              unfold rwA
              rw [sw_4n ej]
              simp (disch := omega) only [su_ne]
          · rw [if_neg (fun q => e14 q.1)]
            by_cases e15 : k = 15
            · subst e15
              have q : j < sw σ w g 0 3 0 ∧ ¬ su (su τ 14 w 0) 15 w 0 15 j = 0 := hu
              have ej : j ≠ w := fun e => by
                subst e
                rw [su_eq] at q
                exact q.2 rfl
              show rcell (su (su τ 14 w 0) 15 w 0 15 j) (sw σ w g 0 4 j) (fun i => su (su A 14 w l) 13 w x 16 (12 * j + i)) = rcell (τ 15 j) (σ 4 j) (fun i => A 16 (12 * j + i))
              rw [sw_4n ej]
              simp (disch := omega) only [su_ne]
            · by_cases e16 : k = 16
              · subst e16
                have q : sv (sw σ w g 0) j := hu
                have q2 := ((sv_sw hw).mp q).elim (fun q => by omega) id
                have ej : j / 12 ≠ w := fun e => by have := q2.1; omega
                show (Sum.inr (8, [.ref (κ (4 + sw σ w g 0 5 (j / 12))), .ref (su (su A 14 w l) 13 w x 17 j), .int (nI (sw σ w g 0 7 j))]) : xO) = Sum.inr (8, [.ref (κ (4 + σ 5 (j / 12))), .ref (A 17 j), .int (nI (σ 7 j))])
                rw [sw_5n ej, sw_o (by decide), su_nr (by decide), su_nr (by decide)]
              · unfold sw
                rw [cC_A (rfsN_13 e2), cC_A (rfsN_14 e13), cC_rowT (rwTN_15 ⟨e14, e15⟩), cC_rowT (rwTN_14 e14), cC_row (rwsN_3 ⟨e1, e2⟩), cC_row (rwsN_5 e16), cC_row (rwsN_4 ⟨e14, e15⟩)]
theorem PWR.lst {w g i : Nat} (h : PWR κ A σ τ w g i h0 ah) : LL κ ah (A 14 w) (nI (τ 14 w)) (rwA κ A τ 14 w) i (τ 15 w) (fun j => A 16 (12 * w + j)) := by
  refine LL_of (k := 14) ?_ (fun hz => ?_) h.2
  · have := h.1.1 14 w (show w < sw σ w g i 3 0 by rw [sw_3]; omega)
    rw [this]
    show some (lcell (nI (τ 14 w)) (rwA κ A τ 14 w) (sw σ w g i 4 w)) = _
    rw [sw_4]
  · have := h.1.1 15 w (show w < sw σ w g i 3 0 ∧ ¬ τ 15 w = 0 from ⟨by rw [sw_3]; omega, hz⟩)
    rw [this]
    show some (rcell (τ 15 w) (sw σ w g i 4 w) (fun j => A 16 (12 * w + j))) = _
    rw [sw_4]
theorem sw_5c {w g i i' j : Nat} : sw σ w g i 5 j = sw σ w g i' 5 j := by
  by_cases e : j = w
  · subst e; rw [sw_5, sw_5]
  · rw [sw_5n e, sw_5n e]
theorem PWS {w g i s l a e' M : Nat} {ah' : xH} (h : PWR κ A σ τ w g i h0 ah) (hI : MI σ) (hZ : ZI σ) (hw : σ 3 0 = w) (hw10 : w < 10) (hi : i < 12) (ha : a = 12 * w + i) (hl : ah l = none) (hs : ah s = none) (hsl : s ≠ l)
    (hc : (e' = rwA κ A τ 14 w ∧ ¬ τ 15 w = 0) ∨ (xup (xup ah l (lcell 0 (κ 9) 0)) s (.inr (8, [.ref (κ (4 + g)), .ref l, .int 0]))) e' = none) (hM : M ∈ caps) (hM2 : i + 1 ≤ M)
    (h1 : ah' (A 14 w) = some (lcell (nI (τ 14 w) + 1) e' (i + 1)))
    (h2 : ah' e' = some (rcell M (i + 1) (fun j => if j = i then s else A 16 (12 * w + j)))) (hne : A 14 w ≠ e')
    (h3 : ∀ b, b ≠ A 14 w → b ≠ e' → ah' b = xup (xup ah l (lcell 0 (κ 9) 0)) s (.inr (8, [.ref (κ (4 + g)), .ref l, .int 0])) b) :
    PWR κ (su (su (su A 17 a l) 16 a s) 15 w e') σ (su (su (su (su τ 17 a 0) 18 a 0) 15 w M) 14 w (τ 14 w + 1)) w g (i + 1) h0 ah' := by
  have hM0 := caps_le M hM
  have a1 : a / 12 = w := by omega
  have a2 : a % 12 = i := by omega
  have n1 : ¬ sv (sw σ w g i) a := fun q => ((sv_sw hw).mp q).elim (fun q => by omega) (fun q => by have := q.1; omega)
  have svi : ∀ b, sv (sw σ w g (i + 1)) b → b = a ∨ sv (sw σ w g i) b := by
    intro b q
    rcases (sv_sw hw).mp q with q | q
    · by_cases e : b = a
      · exact Or.inl e
      · exact Or.inr ((sv_sw hw).mpr (Or.inl ⟨q.1, by omega⟩))
    · exact Or.inr ((sv_sw hw).mpr (Or.inr q))
  have h8a : σ 8 a = 0 := by rw [ha]; exact hI.off hw10 hi (by omega)
  have h7a : σ 7 a = 0 := by rw [ha]; exact hZ.2 w i hw10 hi (by omega)
  have g1 := h.1.nw (k := 17) (i := a) hl n1 (lcell 0 (κ 9) 0)
  have g2 := g1.nw (k := 16) (i := a) (x := s) (by rw [xup_ne _ _ hsl]; exact hs) (fun q => q.elim (fun q => absurd q.1 (by decide)) n1) (.inr (8, [.ref (κ (4 + g)), .ref l, .int 0]))
  have eA : su (su A 17 a l) 16 a s 14 w = A 14 w := by rw [su_nr (by decide), su_nr (by decide)]
  have eA15 : su (su A 17 a l) 16 a s 15 w = A 15 w := by rw [su_nr (by decide), su_nr (by decide)]
  have u14 : cU (sw σ w g i) τ 14 w := show w < sw σ w g i 3 0 by rw [sw_3]; omega
  have g3 := g2.ladd (k := 14) (i := w) (e' := e') (ah' := ah') (Or.inr (Or.inr u14)) (hc.imp (fun q => ⟨by rw [eA15, q.1]; exact rwA_ne q.2, Or.inr (Or.inr ⟨show w < sw σ w g i 3 0 by rw [sw_3]; omega, q.2⟩)⟩) id) (by rw [eA]; exact h1) h2 (by rw [eA]; exact hne) (fun b q1 q2 => by rw [eA] at q1; exact h3 b q1 q2)
  refine ⟨g3.cg (fun k j hu => ?_) (fun _ _ _ => rfl) (fun k j hu => ?_), Or.inr ⟨by rw [su_nr (by decide), su_eq]; exact hM2, by rw [su_nr (by decide), su_eq]; exact hM⟩⟩
  · by_cases e15 : k = 15
    · subst e15
      have q : j < sw σ w g (i + 1) 3 0 ∧ ¬ su (su (su (su τ 17 a 0) 18 a 0) 15 w M) 14 w (τ 14 w + 1) 15 j = 0 := hu
      rw [sw_3] at q
      by_cases ej : j = w
      · exact Or.inl ⟨rfl, ej⟩
      · refine Or.inr (Or.inr (Or.inr ?_))
        rw [su_nr (by decide), su_ne (by omega), su_nr (by decide), su_nr (by decide)] at q
        exact ⟨by rw [sw_3]; exact q.1, q.2⟩
    · by_cases e16 : k = 16
      · subst e16
        exact (svi j hu).elim (fun q => Or.inr (Or.inl ⟨rfl, q⟩)) (fun q => Or.inr (Or.inr (Or.inr q)))
      · by_cases e17 : k = 17
        · subst e17
          exact (svi j hu).elim (fun q => Or.inr (Or.inr (Or.inl ⟨rfl, q⟩))) (fun q => Or.inr (Or.inr (Or.inr q)))
        · refine Or.inr (Or.inr (Or.inr ?_))
          by_cases e18 : k = 18
          · subst e18
            have q : sv (sw σ w g (i + 1)) j ∧ ¬ su (su (su (su τ 17 a 0) 18 a 0) 15 w M) 14 w (τ 14 w + 1) 18 j = 0 := hu
            rw [su_nr (by decide), su_nr (by decide)] at q
            by_cases ej : j = a
            · subst ej
              rw [su_eq] at q
              exact absurd rfl q.2
            · rw [su_ne (by omega), su_nr (by decide)] at q
              exact ⟨(svi j q.1).elim (fun q => absurd q ej) id, q.2⟩
          · by_cases e19 : k = 19
            · subst e19
              have q : sv (sw σ w g (i + 1)) (j / 6) ∧ j % 6 < sw σ w g (i + 1) 8 (j / 6) := hu
              rw [sw_o (by decide)] at q
              have q1 := (svi _ q.1).elim (fun e => by have := q.2; rw [e, h8a] at this; omega) id
              exact ⟨q1, by rw [sw_o (by decide)]; exact q.2⟩
            · unfold cU at hu ⊢
              split at hu <;> first | exact hu | (simp (disch := omega) only [su_nr, sw_o, sw_3] at hu ⊢ <;> first | exact hu) | omega
  · unfold cu pC
    by_cases e1 : k = 1
    · subst e1
      rw [if_pos rfl, if_neg (fun q => absurd q.1 (by decide)), if_neg (fun q => absurd q.1 (by decide)), if_neg (fun q => absurd q.1 (by decide)), if_neg (fun q => absurd q.1 (by decide)), if_pos rfl]
      unfold rwA
      simp (disch := omega) only [su_ne]
    · rw [if_neg e1]
      by_cases e2 : k = 2
      · subst e2
        rw [if_pos rfl, if_neg (fun q => absurd q.1 (by decide)), if_neg (fun q => absurd q.1 (by decide)), if_neg (fun q => absurd q.1 (by decide)), if_neg (fun q => absurd q.1 (by decide)), if_neg (by decide), if_pos rfl]
        simp (disch := omega) only [su_ne]
      · rw [if_neg e2]
        by_cases e14 : k = 14 ∧ j = w
        · obtain ⟨rfl, rfl⟩ := e14
          rw [if_pos ⟨rfl, rfl⟩]
          show lcell _ (rwA _ _ _ 14 _) (sw σ _ g (i + 1) 4 _) = _
          rw [rwA_ne (by simp (disch := omega) only [su_ne, su_eq]; omega), sw_4]
          simp (disch := omega) only [su_ne, su_eq, nI_succ]
        · rw [if_neg e14]
          by_cases e15 : k = 15 ∧ j = w
          · obtain ⟨rfl, rfl⟩ := e15
            rw [if_pos ⟨rfl, rfl⟩]
            show rcell _ (sw σ _ g (i + 1) 4 _) _ = _
            rw [sw_4]
            simp (disch := omega) only [su_ne, su_eq]
            refine rcell_cg (fun y hy => ?_)
            by_cases ey : y = i
            · rw [if_pos ey, ey, ← ha, su_eq]
            · rw [if_neg ey, su_ne (by omega), su_nr (by decide)]
          · rw [if_neg e15]
            by_cases e16 : k = 16 ∧ j = a
            · obtain ⟨rfl, rfl⟩ := e16
              rw [if_pos ⟨rfl, rfl⟩]
              show (Sum.inr (8, [.ref (κ (4 + sw σ w g (i + 1) 5 (j / 12))), .ref (su (su (su A 17 j l) 16 j s) 15 w e' 17 j), .int (nI (sw σ w g (i + 1) 7 j))]) : xO) = _
              rw [a1, sw_5, sw_o (by decide), h7a, su_nr (by decide), su_nr (by decide), su_eq]
              rfl
            · rw [if_neg e16]
              by_cases e17 : k = 17 ∧ j = a
              · obtain ⟨rfl, rfl⟩ := e17
                rw [if_pos ⟨rfl, rfl⟩]
                show lcell _ (rwA _ _ _ 17 _) (sw σ w g (i + 1) 8 j) = _
                unfold rwA
                rw [sw_o (by decide), h8a]
                simp (disch := omega) only [su_ne, su_eq, if_true]
                rfl
              · rw [if_neg e17, if_neg e1, if_neg e2]
                by_cases k14 : k = 14
                · subst k14
                  have ej : j ≠ w := fun q => e14 ⟨rfl, q⟩
                  show lcell _ (rwA _ _ _ 14 _) (sw σ w g (i + 1) 4 j) = lcell _ (rwA _ _ _ 14 _) (sw σ w g i 4 j)
                  unfold rwA
                  rw [sw_4n ej, sw_4n ej]
                  simp (disch := omega) only [su_ne]
                · by_cases k15 : k = 15
                  · subst k15
                    have ej : j ≠ w := fun q => e15 ⟨rfl, q⟩
                    show rcell _ (sw σ w g (i + 1) 4 j) _ = rcell _ (sw σ w g i 4 j) _
                    rw [sw_4n ej, sw_4n ej]
                    have q : j < sw σ w g (i + 1) 3 0 ∧ _ := hu
                    have q1 := q.1
                    rw [sw_3] at q1
                    have h4 := hI.w4 (w := j) (by omega)
                    simp (disch := omega) only [su_ne]
                    refine rcell_cg (fun y hy => ?_)
                    rw [su_ne (by omega), su_nr (by decide)]
                  · by_cases k16 : k = 16
                    · subst k16
                      have ej : j ≠ a := fun q => e16 ⟨rfl, q⟩
                      show (Sum.inr (8, [.ref (κ (4 + sw σ w g (i + 1) 5 (j / 12))), .ref (su (su (su A 17 a l) 16 a s) 15 w e' 17 j), .int (nI (sw σ w g (i + 1) 7 j))]) : xO) = Sum.inr (8, [.ref (κ (4 + sw σ w g i 5 (j / 12))), .ref (A 17 j), .int (nI (sw σ w g i 7 j))])
                      rw [sw_5c (i := i + 1) (i' := i), sw_o (c := 7) (by decide), sw_o (c := 7) (by decide), su_nr (by decide), su_nr (by decide), su_ne (by omega)]
                    · by_cases k17 : k = 17
                      · subst k17
                        have ej : j ≠ a := fun q => e17 ⟨rfl, q⟩
                        show lcell _ (rwA _ _ _ 17 _) (sw σ w g (i + 1) 8 j) = lcell _ (rwA _ _ _ 17 _) (sw σ w g i 8 j)
                        unfold rwA
                        rw [sw_o (by decide), sw_o (by decide)]
                        simp (disch := omega) only [su_ne]
                      · by_cases k18 : k = 18
                        · subst k18
                          have q : sv (sw σ w g (i + 1)) j ∧ ¬ su (su (su (su τ 17 a 0) 18 a 0) 15 w M) 14 w (τ 14 w + 1) 18 j = 0 := hu
                          rw [su_nr (by decide), su_nr (by decide)] at q
                          have ej : j ≠ a := fun e => by
                            subst e
                            rw [su_eq] at q
                            exact q.2 rfl
                          show rcell _ (sw σ w g (i + 1) 8 j) _ = rcell _ (sw σ w g i 8 j) _
                          rw [sw_o (by decide), sw_o (by decide)]
                          simp (disch := omega) only [su_ne]
                        · rw [cC_A (rfsN_15 k14), cC_A (rfsN_16 k15), cC_A (rfsN_17 k16), cC_rowT (rwTN_14 k14), cC_rowT (rwTN_15 ⟨k14, k15⟩), cC_rowT (rwTN_18 ⟨k17, k18⟩), cC_rowT (rwTN_17 k17)]
                          unfold sw
                          simp only [cC_row (rwsN_3 ⟨e1, e2⟩), cC_row (rwsN_5 k16), cC_row (rwsN_4 ⟨k14, k15⟩)]
end

