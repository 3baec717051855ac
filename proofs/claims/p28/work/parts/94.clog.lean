/-! the class: the log -/
def lgc (τ : xS) (w s : Nat) : Nat → Int
  | 0 => 0
  | n + 1 => lgc τ w s n + (if τ 34 n = w ∧ τ 35 n ≤ s ∧ s ≤ τ 36 n then (if τ 37 n = 0 then -1 else 1) else 0)
section
variable {κ : Nat → Nat} {R : xR → xH → Prop} {A σ τ : xS} {h0 ah : xH}
theorem CR.x (h : CR κ A σ τ h0 ah) : ah (A 0 0) = some (.inr (10, [.ref (A 1 0), .ref (A 3 0), .ref (A 6 0), .ref (A 8 0), .int (nI (σ 0 0)), .int (nI (σ 1 0)), .int (nI (σ 2 0))])) := h.1.1 0 0 rfl
theorem CR.logO (h : CR κ A σ τ h0 ah) : ah (A 3 0) = some (.inr (5, [.ref (A 4 0)])) := h.1.1 3 0 rfl
theorem CR.logL (h : CR κ A σ τ h0 ah) : LL κ ah (A 4 0) (nI (τ 4 0)) (rwA κ A τ 4 0) (τ 33 0) (τ 5 0) (fun j => A 23 j) :=
  LL_of (k := 4) (h.1.1 4 0 rfl) (fun hz => h.1.1 5 0 ⟨rfl, hz⟩) h.2.2.1
theorem CR.entry (h : CR κ A σ τ h0 ah) {i : Nat} (hi : i < τ 33 0) : ah (A 23 i) = some (.inr (3, [.int (nI (τ 34 i)), .int (nI (τ 35 i)), .int (nI (τ 36 i)), .int (mo1 (τ 37 i))])) := h.1.1 23 i hi
theorem sp_logFull (h : CR κ A σ τ h0 ah) (hn : τ 33 0 < 163) : xm κ 22 [.ref (A 3 0)] ah R ↔ R (.inl (some (.int 0))) ah := by
  have f : xfld ah (A 3 0) 5 0 = some (.ref (A 4 0)) := xfld_of h.logO
  have hx : xis ah (A 4 0) 1 = True := xis_of h.logL.1
  have e : (nI (τ 33 0) < 512) = True := eq_true (show nI (τ 33 0) < nI 512 from nI_lt (by omega) (by decide))
  simp (disch := omega) only [en22, e22_0, e22_0n, e22_1, e22_4, e22_7, e22_10, e22_13, e22_14, e22_17, e22_18, xKv, xK0, xKx, xKHv, xKH0, xk_none, xk_i, xk_f, xk_l, xk_r, xk_n, xc_i, xc_f, xc_l, xc_d, xc_r, xc_n, xo_some, List.map_cons, List.map_nil, List.sum_cons, List.sum_nil, xnzn, xpn0, xpn1, xpnb, xpnn, i10, i00, true_imp_iff, false_imp_iff, not_true_eq_false, not_false_eq_true, true_and, and_true, implies_true, xnz0, xnz1, xnzb, xfz0, xfz1, xfzb, Option.isSome_some, if_true, if_false, xbF, xbT, and_false, false_and, Nat.zero_le, Nat.reduceEqDiff, Nat.reduceLeDiff, Nat.reduceAdd, Nat.reduceSub, xiT, xiF, f, hx, sp_lsize h.logL.1, e]
theorem CR.addE (h : CR κ A σ τ h0 ah) {w f t m x e' M : Nat} (hx : ah x = none) {ah' : xH}
    (hc : (e' = rwA κ A τ 4 0 ∧ ¬ τ 5 0 = 0) ∨ (xup ah x (.inr (3, [.int (nI w), .int (nI f), .int (nI t), .int (mo1 m)]))) e' = none) (hM : M ∈ caps) (hM2 : τ 33 0 + 1 ≤ M)
    (h1 : ah' (A 4 0) = some (lcell (nI (τ 4 0) + 1) e' (τ 33 0 + 1)))
    (h2 : ah' e' = some (rcell M (τ 33 0 + 1) (fun i => if i = τ 33 0 then x else A 23 i))) (hne : A 4 0 ≠ e')
    (h3 : ∀ a, a ≠ A 4 0 → a ≠ e' → ah' a = xup ah x (.inr (3, [.int (nI w), .int (nI f), .int (nI t), .int (mo1 m)])) a) :
    CR κ (su (su A 23 (τ 33 0) x) 5 0 e') σ (su (su (su (su (su (su (su τ 34 (τ 33 0) w) 35 (τ 33 0) f) 36 (τ 33 0) t) 37 (τ 33 0) m) 33 0 (τ 33 0 + 1)) 5 0 M) 4 0 (τ 4 0 + 1)) h0 ah' := by
  have hM0 := caps_le M hM
  generalize hn : τ 33 0 = n at *
  have g1 := h.1.nw (k := 23) (i := n) hx (show ¬ n < τ 33 0 by omega) (.inr (3, [.int (nI w), .int (nI f), .int (nI t), .int (mo1 m)]))
  have eA : su A 23 n x 4 0 = A 4 0 := su_nr (by decide)
  have eA8 : su A 23 n x 5 0 = A 5 0 := su_nr (by decide)
  have g2 := g1.ladd (k := 4) (i := 0) (e' := e') (ah' := ah') (Or.inr rfl) (hc.imp (fun q => ⟨by rw [eA8, q.1]; exact rwA_ne q.2, Or.inr ⟨rfl, q.2⟩⟩) id) (by rw [eA]; exact h1) h2 (by rw [eA]; exact hne) (fun b q1 q2 => by rw [eA] at q1; exact h3 b q1 q2)
  refine ⟨g2.cg (fun k' i' hu => ?_) (fun _ _ _ => rfl) (fun k' i' hu => ?_), ?_⟩
  · by_cases e5 : k' = 5
    · subst e5
      exact Or.inl ⟨rfl, hu.1⟩
    · by_cases e23 : k' = 23
      · subst e23
        have q : i' < su (su (su (su (su (su (su τ 34 n w) 35 n f) 36 n t) 37 n m) 33 0 (n + 1)) 5 0 M) 4 0 (τ 4 0 + 1) 33 0 := hu
        simp (disch := omega) only [su_ne, su_eq] at q
        by_cases ei : i' = n
        · exact Or.inr (Or.inl ⟨rfl, ei⟩)
        · refine Or.inr (Or.inr ?_)
          show i' < τ 33 0
          omega
      · refine Or.inr (Or.inr ?_)
        unfold cU at hu ⊢
        split at hu <;> first | exact hu | (simp (disch := omega) only [su_nr] at hu ⊢ <;> first | exact hu | omega) | omega
  · unfold cu
    by_cases e4 : k' = 4 ∧ i' = 0
    · obtain ⟨rfl, rfl⟩ := e4
      rw [if_pos ⟨rfl, rfl⟩]
      show lcell _ (rwA _ _ _ 4 0) _ = _
      rw [rwA_ne (by simp (disch := omega) only [su_ne, su_eq]; omega)]
      simp (disch := omega) only [su_ne, su_eq, nI_succ]
    · rw [if_neg e4]
      by_cases e5 : k' = 5 ∧ i' = 0
      · obtain ⟨rfl, rfl⟩ := e5
        rw [if_pos ⟨rfl, rfl⟩]
        show rcell _ _ _ = _
        simp (disch := omega) only [su_ne, su_eq]
        refine rcell_cg (fun j hj => ?_)
        by_cases ej : j = n
        · subst ej; rw [su_eq, if_pos rfl]
        · rw [if_neg ej, su_ne (by omega)]
      · rw [if_neg e5]
        by_cases e23 : k' = 23
        · subst e23
          by_cases ei : i' = n
          · subst ei
            rw [if_pos ⟨rfl, rfl⟩]
            unfold cC
            simp (disch := omega) only [su_ne, su_eq]
          · rw [if_neg (fun q => ei q.2)]
            unfold cC
            simp (disch := omega) only [su_ne]
        · rw [if_neg (fun q => e23 q.1)]
          have k4 : k' ≠ 4 := fun q => e4 ⟨q, by subst q; exact hu⟩
          have k5 : k' ≠ 5 := fun q => e5 ⟨q, by subst q; exact hu.1⟩
          rw [cC_A (rfsN_5 k4), cC_A (rfsN_23 k5), cC_rowT (rwTN_4 k4), cC_rowT (rwTN_5 ⟨k4, k5⟩), cC_rowT (rwTN_33 ⟨k4, k5⟩), cC_rowT (rwTN_37 e23), cC_rowT (rwTN_36 e23), cC_rowT (rwTN_35 e23), cC_rowT (rwTN_34 e23)]
  · obtain ⟨w1, w2, w3, w4, w5, w6⟩ := h.2
    unfold CW
    simp (disch := omega) only [su_nr, su_eq]
    exact ⟨w1, Or.inr ⟨hM2, hM⟩, w3, w4, w5, w6⟩
theorem sp_entryInit {u : Nat} {a b c d : Int32} (hc : ah u = some (.inr (3, [.int 0, .int 0, .int 0, .int 0]))) : xm κ 6 [.ref u, .int a, .int b, .int c, .int d] ah R ↔ R (.inl none) (xup ah u (.inr (3, [.int a, .int b, .int c, .int d]))) := by
  have f0 : (xfld ah u 3 0).isSome = true := by rw [xfld_of hc]; rfl
  have e1 : xput ah u 0 (.int a) = xup ah u (.inr (3, [.int a, .int 0, .int 0, .int 0])) := xput_of hc
  have h1 : xup ah u (.inr (3, [.int a, .int 0, .int 0, .int 0])) u = some (.inr (3, [.int a, .int 0, .int 0, .int 0])) := xup_self _ _ _
  have f1 : (xfld (xup ah u (.inr (3, [.int a, .int 0, .int 0, .int 0]))) u 3 1).isSome = true := by rw [xfld_of h1]; rfl
  have e2 : xput (xup ah u (.inr (3, [.int a, .int 0, .int 0, .int 0]))) u 1 (.int b) = xup ah u (.inr (3, [.int a, .int b, .int 0, .int 0])) := by rw [xput_of h1, xup_xup]; rfl
  have h2 : xup ah u (.inr (3, [.int a, .int b, .int 0, .int 0])) u = some (.inr (3, [.int a, .int b, .int 0, .int 0])) := xup_self _ _ _
  have f2 : (xfld (xup ah u (.inr (3, [.int a, .int b, .int 0, .int 0]))) u 3 2).isSome = true := by rw [xfld_of h2]; rfl
  have e3 : xput (xup ah u (.inr (3, [.int a, .int b, .int 0, .int 0]))) u 2 (.int c) = xup ah u (.inr (3, [.int a, .int b, .int c, .int 0])) := by rw [xput_of h2, xup_xup]; rfl
  have h3 : xup ah u (.inr (3, [.int a, .int b, .int c, .int 0])) u = some (.inr (3, [.int a, .int b, .int c, .int 0])) := xup_self _ _ _
  have f3 : (xfld (xup ah u (.inr (3, [.int a, .int b, .int c, .int 0]))) u 3 3).isSome = true := by rw [xfld_of h3]; rfl
  have e4 : xput (xup ah u (.inr (3, [.int a, .int b, .int c, .int 0]))) u 3 (.int d) = xup ah u (.inr (3, [.int a, .int b, .int c, .int d])) := by rw [xput_of h3, xup_xup]; rfl
  simp (disch := omega) only [en6, e6_0, e6_0n, e6_1, e6_4, e6_4n, e6_5, e6_6, e6_9, e6_9n, e6_10, e6_11, e6_14, e6_14n, e6_15, e6_16, e6_19, e6_19n, e6_20, e6_22, e6_25, xKv, xK0, xKx, xKHv, xKH0, xk_none, xk_i, xk_f, xk_l, xk_r, xk_n, xc_i, xc_f, xc_l, xc_d, xc_r, xc_n, xo_some, List.map_cons, List.map_nil, List.sum_cons, List.sum_nil, xnzn, xpn0, xpn1, xpnb, xpnn, i10, i00, true_imp_iff, false_imp_iff, not_true_eq_false, not_false_eq_true, true_and, and_true, implies_true, xnz0, xnz1, xnzb, xfz0, xfz1, xfzb, Option.isSome_some, if_true, if_false, xbF, xbT, and_false, false_and, Nat.zero_le, Nat.reduceEqDiff, Nat.reduceLeDiff, Nat.reduceAdd, Nat.reduceSub, xiT, xiF, f0, e1, f1, e2, f2, e3, f3, e4]
def tkE (τ τ' : xS) (w f t m : Nat) : Prop := τ' 33 0 = τ 33 0 + 1 ∧ τ' 34 (τ 33 0) = w ∧ τ' 35 (τ 33 0) = f ∧ τ' 36 (τ 33 0) = t ∧ τ' 37 (τ 33 0) = m ∧ (∀ c i, c ≠ 4 → c ≠ 5 → c ≠ 33 → ¬ ((c = 34 ∨ c = 35 ∨ c = 36 ∨ c = 37) ∧ i = τ 33 0) → τ' c i = τ c i)
theorem sp_note (h : CR κ A σ τ h0 ah) (hn : τ 33 0 < 163) {w f t m : Nat} {mi : Int32} (hm : mi = mo1 m)
    (hR : ∀ A' τ' ah', CR κ A' σ τ' h0 ah' → tkE τ τ' w f t m → (∀ k i, k ≠ 5 → k ≠ 23 → A' k i = A k i) → R (.inl none) ah') : xm κ 23 [.ref (A 3 0), .int (nI w), .int (nI f), .int (nI t), .int mi] ah R := by
  subst hm
  have f0 : xfld ah (A 3 0) 5 0 = some (.ref (A 4 0)) := xfld_of h.logO
  rw [en23, e23_0, e23_1, f0, xo_some, e23_4]
  refine ⟨by decide, by decide, fun x hx => ?_⟩
  have hx0 : xup ah x (.inr (3, [.int 0, .int 0, .int 0, .int 0])) x = some (.inr (3, [.int 0, .int 0, .int 0, .int 0])) := xup_self _ _ _
  rw [e23_7, e23_8, e23_9, e23_10, e23_11, e23_13]
  refine ⟨⟨show (1 + (1 + 0) : Nat) ≤ 8 from by decide, trivial⟩, ?_⟩
  rw [sp_entryInit hx0, xup_xup]
  show xW _ _ _ _
  have c3 := h.fresh hx (.inr (3, [.int (nI w), .int (nI f), .int (nI t), .int (mo1 m)]))
  have hLL := c3.logL
  rw [e23_16]
  refine ⟨⟨by decide, ⟨_, hLL.1⟩, by decide, by decide⟩, sp_ladd hLL hn ⟨3, _, by decide, xup_self _ _ _⟩ (fun i hi => ⟨3, _, by decide, c3.entry hi⟩) (fun e' M ah' q1 q2 q3 q4 q5 q6 q7 => ?_)⟩
  show xW _ _ _ _
  rw [e23_19i, e23_20]
  refine hR _ _ _ (h.addE hx q1 q2 q3 q4 q5 q6 q7) ⟨?_, ?_, ?_, ?_, ?_, fun c i n1 n2 n3 n4 => ?_⟩ (fun k i n1 n2 => ?_)
  · simp (disch := omega) only [su_ne, su_eq]
  · simp (disch := omega) only [su_ne, su_eq]
  · simp (disch := omega) only [su_ne, su_eq]
  · simp (disch := omega) only [su_ne, su_eq]
  · simp (disch := omega) only [su_ne, su_eq]
  · simp (disch := omega) only [su_ne]
  · rw [su_nr (fun q => n1 q.symm), su_nr (fun q => n2 q.symm)]
end

