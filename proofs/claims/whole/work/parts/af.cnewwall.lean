/-! the class: a new wall -/
def sw (σ : xS) (w g i : Nat) : xS := su (su (su σ 4 w i) 5 w g) 3 0 (w + 1)
theorem sw_o {σ : xS} {w g i c j : Nat} (h : c ≠ 3 ∧ c ≠ 4 ∧ c ≠ 5) : sw σ w g i c j = σ c j := by unfold sw; simp (disch := omega) only [su_ne]
theorem sw_3 {σ : xS} {w g i : Nat} : sw σ w g i 3 0 = w + 1 := su_eq
theorem sw_4 {σ : xS} {w g i : Nat} : sw σ w g i 4 w = i := by unfold sw; simp (disch := omega) only [su_ne, su_eq]
theorem sw_4n {σ : xS} {w g i j : Nat} (h : j ≠ w) : sw σ w g i 4 j = σ 4 j := by unfold sw; simp (disch := omega) only [su_ne]
theorem sw_5 {σ : xS} {w g i : Nat} : sw σ w g i 5 w = g := by unfold sw; simp (disch := omega) only [su_ne, su_eq]
theorem sw_5n {σ : xS} {w g i j : Nat} (h : j ≠ w) : sw σ w g i 5 j = σ 5 j := by unfold sw; simp (disch := omega) only [su_ne]
/-- nothing is known yet of what is not there -/
def ZI (σ : xS) : Prop := (∀ w, σ 3 0 ≤ w → w < 10 → σ 6 w = 0) ∧ (∀ w s, w < 10 → s < 12 → ¬ (w < σ 3 0 ∧ s < σ 4 w) → σ 7 (12 * w + s) = 0)
def pC (κ : Nat → Nat) (A σ τ : xS) (w g i : Nat) (k j : Nat) : xO := if k = 1 then lcell (nI (τ 1 0)) (rwA κ A τ 1 0) w else if k = 2 then rcell (τ 2 0) w (fun j => A 13 j) else cC κ A (sw σ w g i) τ k j
def PWR (κ : Nat → Nat) (A σ τ : xS) (w g i : Nat) (h0 ah : xH) : Prop := HR A (cU (sw σ w g i) τ) (pC κ A σ τ w g i) h0 ah ∧ lw (τ 15 w) i
section
variable {κ : Nat → Nat} {R : xR → xH → Prop} {A σ τ : xS} {h0 ah : xH}
theorem sp_listInit {l : Nat} (h : ah l = some (.inr (1, [.int 0, .null, .int 0]))) : xm κ 187 [.ref l] ah R ↔ R (.inl none) (xup ah l (lcell 0 (κ 9) 0)) := by
  have f0 : (xfld ah l 1 0).isSome = true := by rw [xfld_of h]; rfl
  have e0 : xput ah l 0 (.int 0) = xup ah l (.inr (1, [.int 0, .null, .int 0])) := xput_of h
  have h1 : xup ah l (.inr (1, [.int 0, .null, .int 0])) l = some (.inr (1, [.int 0, .null, .int 0])) := xup_self _ _ _
  have f1 : (xfld (xup ah l (.inr (1, [.int 0, .null, .int 0]))) l 1 1).isSome = true := by rw [xfld_of h1]; rfl
  have e1 : xput (xup ah l (.inr (1, [.int 0, .null, .int 0]))) l 1 (.ref (κ 9)) = xup ah l (lcell 0 (κ 9) 0) := by rw [xput_of h1, xup_xup]; rfl
  simp (disch := omega) only [en187, e187_0, e187_0n, e187_1, e187_4, e187_4n, e187_5, e187_8, e187_11, en192, e192_0, e192_0n, e192_1, e192_4, e192_4n, e192_5, e192_6, e192_9, en191, e191_0, e191_0n, e191_1, e191_4, xKv, xK0, xKx, xKHv, xKH0, xk_none, xk_i, xk_f, xk_l, xk_r, xk_n, xc_i, xc_f, xc_l, xc_d, xc_r, xc_n, xo_some, List.map_cons, List.map_nil, List.sum_cons, List.sum_nil, xnzn, xpn0, xpn1, xpnb, xpnn, i10, i00, true_imp_iff, false_imp_iff, not_true_eq_false, not_false_eq_true, true_and, and_true, implies_true, xnz0, xnz1, xnzb, xfz0, xfz1, xfzb, Option.isSome_some, if_true, if_false, xbF, xbT, and_false, false_and, Nat.zero_le, Nat.reduceEqDiff, Nat.reduceLeDiff, Nat.reduceAdd, Nat.reduceSub, xiT, xiF, f0, e0, f1, e1]
theorem sp_stripInit {s q : Nat} (h : ah s = some (.inr (8, [.null, .null, .int 0]))) (hR : ∀ l, ah l = none → R (.inl none) (xup (xup ah l (lcell 0 (κ 9) 0)) s (.inr (8, [.ref q, .ref l, .int 0])))) : xm κ 30 [.ref s, .ref q] ah R := by
  have f0 : (xfld ah s 8 0).isSome = true := by rw [xfld_of h]; rfl
  have e0 : xput ah s 0 (.ref q) = xup ah s (.inr (8, [.ref q, .null, .int 0])) := xput_of h
  rw [en30]
  simp (disch := omega) only [e30_0, e30_0n, e30_1, e30_4, e30_4n, e30_5, e30_5n, e30_6, e30_9, e30_9n, xKv, xK0, xKx, xKHv, xKH0, xk_none, xk_i, xk_f, xk_l, xk_r, xk_n, xc_i, xc_f, xc_l, xc_d, xc_r, xc_n, xo_some, List.map_cons, List.map_nil, List.sum_cons, List.sum_nil, xnzn, xpn0, xpn1, xpnb, xpnn, i10, i00, true_imp_iff, false_imp_iff, not_true_eq_false, not_false_eq_true, true_and, and_true, implies_true, xnz0, xnz1, xnzb, xfz0, xfz1, xfzb, Option.isSome_some, if_true, if_false, xbF, xbT, and_false, false_and, Nat.zero_le, Nat.reduceEqDiff, Nat.reduceLeDiff, Nat.reduceAdd, Nat.reduceSub, xiT, xiF, f0, e0]
  rw [e30_10]
  refine ⟨by decide, by decide, fun l hl => ?_⟩
  have hsl : s ≠ l := xis_ne (xup_self ah s (.inr (8, [.ref q, .null, .int 0]))) hl
  have hl0 : ah l = none := by rw [xup_ne _ _ (fun q => hsl q.symm)] at hl; exact hl
  rw [e30_13, e30_14]
  refine ⟨⟨show (1 + (1 + 0) : Nat) ≤ 8 from by decide, trivial⟩, (sp_listInit (xup_self _ _ _)).mpr ?_⟩
  have h1 : xup (xup (xup ah s (.inr (8, [.ref q, .null, .int 0]))) l (.inr (1, [.int 0, .null, .int 0]))) l (lcell 0 (κ 9) 0) s = some (.inr (8, [.ref q, .null, .int 0])) := by rw [xup_ne _ _ hsl, xup_ne _ _ hsl, xup_self]
  show xW _ _ _ _
  rw [e30_17]
  refine ⟨by rw [xfld_of h1]; rfl, ?_⟩
  have ex : xput (xup (xup (xup ah s (.inr (8, [.ref q, .null, .int 0]))) l (.inr (1, [.int 0, .null, .int 0]))) l (lcell 0 (κ 9) 0)) s 1 (.ref l) = xup (xup ah l (lcell 0 (κ 9) 0)) s (.inr (8, [.ref q, .ref l, .int 0])) := by
    rw [xput_of h1, xup_xup, xup_cm hsl, xup_xup]
    rfl
  rw [e30_20, ex]
  exact hR l hl0
theorem sv_sw {w g i a : Nat} (hw : σ 3 0 = w) : sv (sw σ w g i) a ↔ (a / 12 = w ∧ a % 12 < i) ∨ sv σ a := by
  unfold sv
  rw [sw_3, hw]
  by_cases e : a / 12 = w
  · rw [e, sw_4]
    exact ⟨fun q => Or.inl ⟨rfl, q.2⟩, fun q => q.elim (fun q => ⟨by omega, q.2⟩) (fun q => by omega)⟩
  · rw [sw_4n e]
    exact ⟨fun q => Or.inr ⟨by omega, q.2⟩, fun q => q.elim (fun q => absurd q.1 e) (fun q => ⟨by omega, q.2⟩)⟩
theorem PW0 (h : CR κ A σ τ h0 ah) (hI : MI σ) (hZ : ZI σ) {w g x l : Nat} (hw : σ 3 0 = w) (hw10 : w < 10) (hl : ah l = none) (hx : ah x = none) (hxl : x ≠ l) :
    PWR κ (su (su A 14 w l) 13 w x) σ (su (su τ 14 w 0) 15 w 0) w g 0 h0 (xup (xup ah l (lcell 0 (κ 9) 0)) x (.inr (9, [.ref l, .int 0]))) := by
  have g1 := h.1.nw (k := 14) (i := w) hl (show ¬ w < σ 3 0 by omega) (lcell 0 (κ 9) 0)
  have g2 := g1.nw (k := 13) (i := w) (x := x) (by rw [xup_ne _ _ hxl]; exact hx) (fun q => q.elim (fun q => absurd q.1 (by decide)) (show ¬ w < σ 3 0 by omega)) (.inr (9, [.ref l, .int 0]))
  refine ⟨g2.cg (fun k j hu => ?_) (fun _ _ _ => rfl) (fun k j hu => ?_), Or.inl ⟨su_eq, rfl⟩⟩
  · by_cases e13 : k = 13
    · subst e13
      have q : j < sw σ w g 0 3 0 := hu
      rw [sw_3] at q
      by_cases ej : j = w
      · exact Or.inl ⟨rfl, ej⟩
      · exact Or.inr (Or.inr (show j < σ 3 0 by omega))
    · by_cases e14 : k = 14
      · subst e14
        have q : j < sw σ w g 0 3 0 := hu
        rw [sw_3] at q
        by_cases ej : j = w
        · exact Or.inr (Or.inl ⟨rfl, ej⟩)
        · exact Or.inr (Or.inr (show j < σ 3 0 by omega))
      · refine Or.inr (Or.inr ?_)
        by_cases e15 : k = 15
        · subst e15
          have q : j < sw σ w g 0 3 0 ∧ ¬ su (su τ 14 w 0) 15 w 0 15 j = 0 := hu
          rw [sw_3] at q
          by_cases ej : j = w
          · subst ej
            rw [su_eq] at q
            exact absurd rfl q.2
          · rw [su_ne (by omega), su_nr (by decide)] at q
            exact ⟨by omega, q.2⟩
        · have lsv : ∀ a, sv (sw σ w g 0) a → sv σ a := fun a q => ((sv_sw hw).mp q).elim (fun q => by omega) id
          unfold cU at hu ⊢
          split at hu <;> first | exact hu | (simp (disch := omega) only [su_nr, sw_o] at hu ⊢ <;> first | exact hu | exact lsv _ hu | exact ⟨lsv _ hu.1, hu.2⟩) | exact lsv _ hu | omega
  · unfold cu pC
    by_cases e1 : k = 1
    · subst e1
      rw [if_pos rfl, if_neg (fun q => absurd q.1 (by decide)), if_neg (fun q => absurd q.1 (by decide))]
      show lcell (nI (su (su τ 14 w 0) 15 w 0 1 0)) (rwA κ (su (su A 14 w l) 13 w x) (su (su τ 14 w 0) 15 w 0) 1 0) w = lcell (nI (τ 1 0)) (rwA κ A τ 1 0) (σ 3 0)
      unfold rwA
      rw [hw]
      simp (disch := omega) only [su_ne]
    · rw [if_neg e1]
      by_cases e2 : k = 2
      · subst e2
        rw [if_pos rfl, if_neg (fun q => absurd q.1 (by decide)), if_neg (fun q => absurd q.1 (by decide))]
        show rcell (su (su τ 14 w 0) 15 w 0 2 0) w (fun j => su (su A 14 w l) 13 w x 13 j) = rcell (τ 2 0) (σ 3 0) (fun j => A 13 j)
        rw [hw, su_nr (by decide), su_nr (by decide)]
        exact rcell_cg (fun j hj => by rw [su_ne (by omega), su_nr (by decide)])
      · rw [if_neg e2]
        by_cases e13 : k = 13
        · subst e13
          by_cases ej : j = w
          · subst ej
            rw [if_pos ⟨rfl, rfl⟩]
            show (Sum.inr (9, [.ref (su (su A 14 j l) 13 j x 14 j), .int (nI (sw σ j g 0 6 j))]) : xO) = _
            rw [su_nr (by decide), su_eq, sw_o (by decide), hZ.1 j (by omega) hw10]
            rfl
          · rw [if_neg (fun q => ej q.2), if_neg (fun q => absurd q.1 (by decide))]
            show (Sum.inr (9, [.ref (su (su A 14 w l) 13 w x 14 j), .int (nI (sw σ w g 0 6 j))]) : xO) = Sum.inr (9, [.ref (A 14 j), .int (nI (σ 6 j))])
            rw [su_nr (by decide), su_ne (by omega), sw_o (by decide)]
        · rw [if_neg (fun q => e13 q.1)]
          by_cases e14 : k = 14
          · subst e14
            by_cases ej : j = w
            · subst ej
              rw [if_pos ⟨rfl, rfl⟩]
              show lcell (nI (su (su τ 14 j 0) 15 j 0 14 j)) (rwA κ (su (su A 14 j l) 13 j x) (su (su τ 14 j 0) 15 j 0) 14 j) (sw σ j g 0 4 j) = _
              unfold rwA
              rw [su_nr (by decide), su_eq, su_eq, if_pos rfl, sw_4]
              rfl
            · rw [if_neg (fun q => ej q.2)]
              show lcell (nI (su (su τ 14 w 0) 15 w 0 14 j)) (rwA κ (su (su A 14 w l) 13 w x) (su (su τ 14 w 0) 15 w 0) 14 j) (sw σ w g 0 4 j) = lcell (nI (τ 14 j)) (rwA κ A τ 14 j) (σ 4 j)
              unfold rwA
              rw [sw_4n ej]
              simp (disch := omega) only [su_ne]
          · rw [if_neg (fun q => e14 q.1)]
            by_cases e15 : k = 15
            · subst e15
              have q : j < sw σ w g 0 3 0 ∧ ¬ su (su τ 14 w 0) 15 w 0 15 j = 0 := hu
              have ej : j ≠ w := fun e => by
                subst e
                rw [su_eq] at q
                exact q.2 rfl
              show rcell (su (su τ 14 w 0) 15 w 0 15 j) (sw σ w g 0 4 j) (fun i => su (su A 14 w l) 13 w x 16 (12 * j + i)) = rcell (τ 15 j) (σ 4 j) (fun i => A 16 (12 * j + i))
              rw [sw_4n ej]
              simp (disch := omega) only [su_ne]
            · by_cases e16 : k = 16
              · subst e16
                have q : sv (sw σ w g 0) j := hu
                have q2 := ((sv_sw hw).mp q).elim (fun q => by omega) id
                have ej : j / 12 ≠ w := fun e => by have := q2.1; omega
                show (Sum.inr (8, [.ref (κ (4 + sw σ w g 0 5 (j / 12))), .ref (su (su A 14 w l) 13 w x 17 j), .int (nI (sw σ w g 0 7 j))]) : xO) = Sum.inr (8, [.ref (κ (4 + σ 5 (j / 12))), .ref (A 17 j), .int (nI (σ 7 j))])
                rw [sw_5n ej, sw_o (by decide), su_nr (by decide), su_nr (by decide)]
              · unfold sw
                rw [cC_A (rfsN_13 e2), cC_A (rfsN_14 e13), cC_rowT (rwTN_15 ⟨e14, e15⟩), cC_rowT (rwTN_14 e14), cC_row (rwsN_3 ⟨e1, e2⟩), cC_row (rwsN_5 e16), cC_row (rwsN_4 ⟨e14, e15⟩)]
theorem PWR.lst {w g i : Nat} (h : PWR κ A σ τ w g i h0 ah) : LL κ ah (A 14 w) (nI (τ 14 w)) (rwA κ A τ 14 w) i (τ 15 w) (fun j => A 16 (12 * w + j)) := by
  refine LL_of (k := 14) ?_ (fun hz => ?_) h.2
  · have := h.1.1 14 w (show w < sw σ w g i 3 0 by rw [sw_3]; omega)
    rw [this]
    show some (lcell (nI (τ 14 w)) (rwA κ A τ 14 w) (sw σ w g i 4 w)) = _
    rw [sw_4]
  · have := h.1.1 15 w (show w < sw σ w g i 3 0 ∧ ¬ τ 15 w = 0 from ⟨by rw [sw_3]; omega, hz⟩)
    rw [this]
    show some (rcell (τ 15 w) (sw σ w g i 4 w) (fun j => A 16 (12 * w + j))) = _
    rw [sw_4]
end
