/-! the class: a coat is laid on a strip, or struck off -/
section
variable {κ : Nat → Nat} {R : xR → xH → Prop} {A σ τ : xS} {h0 ah : xH} {a : Nat}
theorem CR.obs (h : CR κ A σ τ h0 ah) (hI : MI σ) (ha : sv σ a) : ∀ i, i < σ 8 a → xob xoks ah (A 19 (6 * a + i)) := fun i hi => ⟨2, _, by decide, h.coat hI ha hi⟩
theorem CR.addC (h : CR κ A σ τ h0 ah) (hI : MI σ) {w s p k x e' M : Nat} (hw : w < σ 3 0) (hs : s < σ 4 w) (h6 : ¬ σ 8 (12 * w + s) = 6)
    (hx : ah x = none) {ah' : xH} (hc : (e' = rwA κ A τ 17 (12 * w + s) ∧ ¬ τ 18 (12 * w + s) = 0) ∨ (xup ah x (ccell κ p k (σ 0 0) (crk σ w (12 * w + s) p k) 0 0)) e' = none) (hM : M ∈ caps) (hM2 : σ 8 (12 * w + s) + 1 ≤ M)
    (h1 : ah' (A 17 (12 * w + s)) = some (lcell (nI (τ 17 (12 * w + s)) + 1) e' (σ 8 (12 * w + s) + 1)))
    (h2 : ah' e' = some (rcell M (σ 8 (12 * w + s) + 1) (fun i => if i = σ 8 (12 * w + s) then x else A 19 (6 * (12 * w + s) + i)))) (hne : A 17 (12 * w + s) ≠ e')
    (h3 : ∀ a, a ≠ A 17 (12 * w + s) → a ≠ e' → ah' a = xup ah x (ccell κ p k (σ 0 0) (crk σ w (12 * w + s) p k) 0 0) a) :
    CR κ (su (su A 19 (6 * (12 * w + s) + σ 8 (12 * w + s)) x) 18 (12 * w + s) e') (lay w p k σ s) (su (su (su τ 30 (6 * (12 * w + s) + σ 8 (12 * w + s)) 0) 18 (12 * w + s) M) 17 (12 * w + s) (τ 17 (12 * w + s) + 1)) h0 ah' := by
  have h4 := hI.w4 (w := w) (by have := hI.W; omega)
  have hW := hI.W
  have hsv : sv σ (12 * w + s) := by
    have e1 : (12 * w + s) / 12 = w := by omega
    have e2 : (12 * w + s) % 12 = s := by omega
    unfold sv
    rw [e1, e2]
    exact ⟨hw, hs⟩
  have h8 := hI.w8 (sv_lt hI hsv)
  have hM0 := caps_le M hM
  generalize hae : 12 * w + s = a at *
  generalize hue : 6 * a + σ 8 a = u at *
  have hu6 : u / 6 = a := by omega
  have hu6' : u % 6 = σ 8 a := by omega
  have hn : ¬ cU σ τ 19 u := by
    show ¬ (sv σ (u / 6) ∧ u % 6 < σ 8 (u / 6))
    rw [hu6, hu6']
    exact fun q => absurd q.2 (Nat.lt_irrefl _)
  have g1 := h.1.nw hx hn (ccell κ p k (σ 0 0) (crk σ w a p k) 0 0)
  have eA : su A 19 u x 17 a = A 17 a := su_nr (by decide)
  have eA8 : su A 19 u x 18 a = A 18 a := su_nr (by decide)
  have g2 := g1.ladd (k := 17) (i := a) (e' := e') (o1 := lcell (nI (τ 17 a) + 1) e' (σ 8 a + 1)) (o2 := rcell M (σ 8 a + 1) (fun i => if i = σ 8 a then x else A 19 (6 * a + i))) (ah' := ah') (Or.inr hsv) (hc.imp (fun q => ⟨by rw [eA8, q.1]; exact rwA_ne q.2, Or.inr ⟨hsv, q.2⟩⟩) id) (by rw [eA]; exact h1) h2 (by rw [eA]; exact hne) (fun b q1 q2 => by rw [eA] at q1; exact h3 b q1 q2)
  have lsv : ∀ b, sv (lay w p k σ s) b = sv σ b := fun b => by unfold sv; rw [lay_o (by decide), lay_o (by decide)]
  have l8 : ∀ b, ¬ b = a → lay w p k σ s 8 b = σ 8 b := fun b hb => by
    unfold lay
    rw [hae]
    simp (disch := omega) only [su_ne]
  have l8a : lay w p k σ s 8 a = σ 8 a + 1 := by rw [← hae]; exact lay_8s
  have hlay : lay w p k σ s = su (su (su (su (su (su (su (su σ 8 a (σ 8 a + 1)) 9 u p) 10 u k) 11 u (σ 0 0)) 12 u 0) 13 u 0) 15 u 0) 14 u (crk σ w a p k) := by
    unfold lay
    rw [hae, hue]
  refine ⟨g2.cg (fun k' i' hu => ?_) (fun _ _ _ => rfl) (fun k' i' hu => ?_), ?_⟩
  · by_cases e18 : k' = 18
    · subst e18
      by_cases ei : i' = a
      · exact Or.inl ⟨rfl, ei⟩
      · refine Or.inr (Or.inr ?_)
        have q : sv (lay w p k σ s) i' ∧ ¬ su (su (su τ 30 u 0) 18 a M) 17 a (τ 17 a + 1) 18 i' = 0 := hu
        rw [lsv] at q
        simp (disch := omega) only [su_ne] at q
        exact q
    · by_cases e19 : k' = 19
      · subst e19
        have q : sv (lay w p k σ s) (i' / 6) ∧ i' % 6 < lay w p k σ s 8 (i' / 6) := hu
        rw [lsv] at q
        by_cases ei : i' = u
        · exact Or.inr (Or.inl ⟨rfl, ei⟩)
        · refine Or.inr (Or.inr ?_)
          show sv σ (i' / 6) ∧ i' % 6 < σ 8 (i' / 6)
          refine ⟨q.1, ?_⟩
          by_cases ea : i' / 6 = a
          · have q2 := q.2
            rw [ea, l8a] at q2
            rw [ea]
            omega
          · rw [← l8 _ ea]; exact q.2
      · refine Or.inr (Or.inr ?_)
        unfold cU at hu ⊢
        split at hu <;> first | exact hu | (simp (disch := omega) only [su_nr, lsv, lay_o] at hu ⊢ <;> first | exact hu | omega) | omega
  · by_cases e19 : k' = 19
    · subst e19
      unfold cu
      rw [if_neg (fun q => absurd q.1 (by decide)), if_neg (fun q => absurd q.1 (by decide))]
      by_cases ei : i' = u
      · subst ei
        rw [if_pos ⟨rfl, rfl⟩, hlay]
        unfold cC ccell
        simp (disch := omega) only [su_ne, su_eq]
      · rw [if_neg (fun q => ei q.2), hlay]
        unfold cC
        simp (disch := omega) only [su_ne]
    · by_cases e17 : k' = 17 ∧ i' = a
      · obtain ⟨rfl, rfl⟩ := e17
        unfold cu
        rw [if_pos ⟨rfl, rfl⟩]
        show lcell (nI (su (su (su τ 30 u 0) 18 i' M) 17 i' (τ 17 i' + 1) 17 i')) (rwA κ (su (su A 19 u x) 18 i' e') (su (su (su τ 30 u 0) 18 i' M) 17 i' (τ 17 i' + 1)) 17 i') (lay w p k σ s 8 i') = _
        rw [su_eq, l8a, rwA_ne (by simp (disch := omega) only [su_ne, su_eq]; omega), su_eq, nI_succ]
      · by_cases e18 : k' = 18 ∧ i' = a
        · obtain ⟨rfl, rfl⟩ := e18
          unfold cu
          rw [if_neg (fun q => absurd q.1 (by decide)), if_pos ⟨rfl, rfl⟩]
          show rcell (su (su (su τ 30 u 0) 18 i' M) 17 i' (τ 17 i' + 1) 18 i') (lay w p k σ s 8 i') (fun j => su (su A 19 u x) 18 i' e' 19 (6 * i' + j)) = _
          rw [su_nr (by decide), su_eq, l8a]
          refine rcell_cg (fun j hj => ?_)
          rw [su_nr (by decide)]
          by_cases ej : j = σ 8 i'
          · rw [if_pos ej, ej, hue, su_eq]
          · rw [if_neg ej, su_ne (by omega)]
        · unfold cu
          rw [if_neg e17, if_neg e18, if_neg (fun q => e19 q.1)]
          by_cases k17 : k' = 17
          · subst k17
            have ei : ¬ i' = a := fun q => e17 ⟨rfl, q⟩
            show lcell (nI (su (su (su τ 30 u 0) 18 a M) 17 a (τ 17 a + 1) 17 i')) (rwA κ (su (su A 19 u x) 18 a e') (su (su (su τ 30 u 0) 18 a M) 17 a (τ 17 a + 1)) 17 i') (lay w p k σ s 8 i') = lcell (nI (τ 17 i')) (rwA κ A τ 17 i') (σ 8 i')
            unfold rwA
            rw [l8 _ ei]
            simp (disch := omega) only [su_ne]
          · by_cases k18 : k' = 18
            · subst k18
              have ei : ¬ i' = a := fun q => e18 ⟨rfl, q⟩
              have q : sv (lay w p k σ s) i' ∧ ¬ su (su (su τ 30 u 0) 18 a M) 17 a (τ 17 a + 1) 18 i' = 0 := hu
              rw [lsv] at q
              have h8i := hI.w8 (sv_lt hI q.1)
              show rcell (su (su (su τ 30 u 0) 18 a M) 17 a (τ 17 a + 1) 18 i') (lay w p k σ s 8 i') (fun j => su (su A 19 u x) 18 a e' 19 (6 * i' + j)) = rcell (τ 18 i') (σ 8 i') (fun j => A 19 (6 * i' + j))
              rw [l8 _ ei]
              simp (disch := omega) only [su_ne]
              refine rcell_cg (fun j hj => ?_)
              rw [su_ne (by omega)]
            · rw [cC_A (rfsN_18 k17), cC_A (rfsN_19 k18), cC_rowT (rwTN_17 k17), cC_rowT (rwTN_18 ⟨k17, k18⟩), cC_rowT (rwTN_30 e19), hlay, cC_row (rwsN_14 e19), cC_row (rwsN_15 e19), cC_row rws12.2.1, cC_row rws12.1, cC_row (rwsN_11 e19), cC_row (rwsN_10 e19), cC_row (rwsN_9 e19), cC_row (rwsN_8 ⟨k17, k18⟩)]
  · obtain ⟨w1, w2, w3, w4, w5, w6⟩ := h.2
    unfold CW
    simp (disch := omega) only [su_nr, lay_o]
    refine ⟨w1, w2, w3, w4, w5, fun b hb => ?_⟩
    rw [lsv] at hb
    by_cases eb : b = a
    · subst eb
      rw [su_eq, l8a]
      exact Or.inr ⟨hM2, hM⟩
    · rw [su_ne (by omega), l8 _ eb]
      have := w6 b hb
      simp (disch := omega) only [su_ne]
      exact this
end

