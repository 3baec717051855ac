/-! the class's heap: what a change reaches -/
def rfs (k : Nat) : List Nat := match k with
  | 0 => [1, 3, 6, 8]
  | 1 => [2]
  | 2 => [13]
  | 3 => [4]
  | 4 => [5]
  | 5 => [23]
  | 6 => [7]
  | 7 => [20]
  | 8 => [9, 11, 12]
  | 9 => [10]
  | 10 => [22]
  | 11 => []
  | 12 => []
  | 13 => [14]
  | 14 => [15]
  | 15 => [16]
  | 16 => [17]
  | 17 => [18]
  | 18 => [19]
  | 19 => []
  | 20 => [21]
  | 21 => []
  | 22 => []
  | 23 => []
  | _ => []
theorem rwsN_0 {k : Nat} (h : k ≠ 0) : 0 ∉ rws k := by
  unfold rws
  split <;> simp only [List.mem_cons, List.not_mem_nil, not_or, or_false, not_false_eq_true] <;> omega
theorem rwsN_1 {k : Nat} (h : k ≠ 0) : 1 ∉ rws k := by
  unfold rws
  split <;> simp only [List.mem_cons, List.not_mem_nil, not_or, or_false, not_false_eq_true] <;> omega
theorem rwsN_2 {k : Nat} (h : k ≠ 0) : 2 ∉ rws k := by
  unfold rws
  split <;> simp only [List.mem_cons, List.not_mem_nil, not_or, or_false, not_false_eq_true] <;> omega
theorem rwsN_3 {k : Nat} (h : k ≠ 1 ∧ k ≠ 2) : 3 ∉ rws k := by
  unfold rws
  split <;> simp only [List.mem_cons, List.not_mem_nil, not_or, or_false, not_false_eq_true] <;> omega
theorem rwsN_4 {k : Nat} (h : k ≠ 14 ∧ k ≠ 15) : 4 ∉ rws k := by
  unfold rws
  split <;> simp only [List.mem_cons, List.not_mem_nil, not_or, or_false, not_false_eq_true] <;> omega
theorem rwsN_5 {k : Nat} (h : k ≠ 16) : 5 ∉ rws k := by
  unfold rws
  split <;> simp only [List.mem_cons, List.not_mem_nil, not_or, or_false, not_false_eq_true] <;> omega
theorem rwsN_6 {k : Nat} (h : k ≠ 13) : 6 ∉ rws k := by
  unfold rws
  split <;> simp only [List.mem_cons, List.not_mem_nil, not_or, or_false, not_false_eq_true] <;> omega
theorem rwsN_7 {k : Nat} (h : k ≠ 16) : 7 ∉ rws k := by
  unfold rws
  split <;> simp only [List.mem_cons, List.not_mem_nil, not_or, or_false, not_false_eq_true] <;> omega
theorem rwsN_8 {k : Nat} (h : k ≠ 17 ∧ k ≠ 18) : 8 ∉ rws k := by
  unfold rws
  split <;> simp only [List.mem_cons, List.not_mem_nil, not_or, or_false, not_false_eq_true] <;> omega
theorem rwsN_9 {k : Nat} (h : k ≠ 19) : 9 ∉ rws k := by
  unfold rws
  split <;> simp only [List.mem_cons, List.not_mem_nil, not_or, or_false, not_false_eq_true] <;> omega
theorem rwsN_10 {k : Nat} (h : k ≠ 19) : 10 ∉ rws k := by
  unfold rws
  split <;> simp only [List.mem_cons, List.not_mem_nil, not_or, or_false, not_false_eq_true] <;> omega
theorem rwsN_11 {k : Nat} (h : k ≠ 19) : 11 ∉ rws k := by
  unfold rws
  split <;> simp only [List.mem_cons, List.not_mem_nil, not_or, or_false, not_false_eq_true] <;> omega
theorem rwsN_14 {k : Nat} (h : k ≠ 19) : 14 ∉ rws k := by
  unfold rws
  split <;> simp only [List.mem_cons, List.not_mem_nil, not_or, or_false, not_false_eq_true] <;> omega
theorem rwsN_15 {k : Nat} (h : k ≠ 19) : 15 ∉ rws k := by
  unfold rws
  split <;> simp only [List.mem_cons, List.not_mem_nil, not_or, or_false, not_false_eq_true] <;> omega
theorem rwsN_16 {k : Nat} (h : k ≠ 6 ∧ k ≠ 7) : 16 ∉ rws k := by
  unfold rws
  split <;> simp only [List.mem_cons, List.not_mem_nil, not_or, or_false, not_false_eq_true] <;> omega
theorem rwsN_17 {k : Nat} (h : k ≠ 20 ∧ k ≠ 21) : 17 ∉ rws k := by
  unfold rws
  split <;> simp only [List.mem_cons, List.not_mem_nil, not_or, or_false, not_false_eq_true] <;> omega
theorem rwsN_18 {k : Nat} (h : k ≠ 21) : 18 ∉ rws k := by
  unfold rws
  split <;> simp only [List.mem_cons, List.not_mem_nil, not_or, or_false, not_false_eq_true] <;> omega
theorem rwsN_19 {k : Nat} (h : k ≠ 11) : 19 ∉ rws k := by
  unfold rws
  split <;> simp only [List.mem_cons, List.not_mem_nil, not_or, or_false, not_false_eq_true] <;> omega
theorem rwsN_20 {k : Nat} (h : k ≠ 9 ∧ k ≠ 10) : 20 ∉ rws k := by
  unfold rws
  split <;> simp only [List.mem_cons, List.not_mem_nil, not_or, or_false, not_false_eq_true] <;> omega
theorem rwsN_21 {k : Nat} (h : k ≠ 22) : 21 ∉ rws k := by
  unfold rws
  split <;> simp only [List.mem_cons, List.not_mem_nil, not_or, or_false, not_false_eq_true] <;> omega
theorem rwsN_23 {k : Nat} (h : k ≠ 12) : 23 ∉ rws k := by
  unfold rws
  split <;> simp only [List.mem_cons, List.not_mem_nil, not_or, or_false, not_false_eq_true] <;> omega
theorem rwTN_1 {k : Nat} (h : k ≠ 1) : 1 ∉ rwT k := by
  unfold rwT
  split <;> simp only [List.mem_cons, List.not_mem_nil, not_or, or_false, not_false_eq_true] <;> omega
theorem rwTN_2 {k : Nat} (h : k ≠ 1 ∧ k ≠ 2) : 2 ∉ rwT k := by
  unfold rwT
  split <;> simp only [List.mem_cons, List.not_mem_nil, not_or, or_false, not_false_eq_true] <;> omega
theorem rwTN_4 {k : Nat} (h : k ≠ 4) : 4 ∉ rwT k := by
  unfold rwT
  split <;> simp only [List.mem_cons, List.not_mem_nil, not_or, or_false, not_false_eq_true] <;> omega
theorem rwTN_5 {k : Nat} (h : k ≠ 4 ∧ k ≠ 5) : 5 ∉ rwT k := by
  unfold rwT
  split <;> simp only [List.mem_cons, List.not_mem_nil, not_or, or_false, not_false_eq_true] <;> omega
theorem rwTN_6 {k : Nat} (h : k ≠ 6) : 6 ∉ rwT k := by
  unfold rwT
  split <;> simp only [List.mem_cons, List.not_mem_nil, not_or, or_false, not_false_eq_true] <;> omega
theorem rwTN_7 {k : Nat} (h : k ≠ 6 ∧ k ≠ 7) : 7 ∉ rwT k := by
  unfold rwT
  split <;> simp only [List.mem_cons, List.not_mem_nil, not_or, or_false, not_false_eq_true] <;> omega
theorem rwTN_9 {k : Nat} (h : k ≠ 9) : 9 ∉ rwT k := by
  unfold rwT
  split <;> simp only [List.mem_cons, List.not_mem_nil, not_or, or_false, not_false_eq_true] <;> omega
theorem rwTN_10 {k : Nat} (h : k ≠ 9 ∧ k ≠ 10) : 10 ∉ rwT k := by
  unfold rwT
  split <;> simp only [List.mem_cons, List.not_mem_nil, not_or, or_false, not_false_eq_true] <;> omega
theorem rwTN_14 {k : Nat} (h : k ≠ 14) : 14 ∉ rwT k := by
  unfold rwT
  split <;> simp only [List.mem_cons, List.not_mem_nil, not_or, or_false, not_false_eq_true] <;> omega
theorem rwTN_15 {k : Nat} (h : k ≠ 14 ∧ k ≠ 15) : 15 ∉ rwT k := by
  unfold rwT
  split <;> simp only [List.mem_cons, List.not_mem_nil, not_or, or_false, not_false_eq_true] <;> omega
theorem rwTN_17 {k : Nat} (h : k ≠ 17) : 17 ∉ rwT k := by
  unfold rwT
  split <;> simp only [List.mem_cons, List.not_mem_nil, not_or, or_false, not_false_eq_true] <;> omega
theorem rwTN_18 {k : Nat} (h : k ≠ 17 ∧ k ≠ 18) : 18 ∉ rwT k := by
  unfold rwT
  split <;> simp only [List.mem_cons, List.not_mem_nil, not_or, or_false, not_false_eq_true] <;> omega
theorem rwTN_30 {k : Nat} (h : k ≠ 19) : 30 ∉ rwT k := by
  unfold rwT
  split <;> simp only [List.mem_cons, List.not_mem_nil, not_or, or_false, not_false_eq_true] <;> omega
theorem rwTN_31 {k : Nat} (h : k ≠ 22) : 31 ∉ rwT k := by
  unfold rwT
  split <;> simp only [List.mem_cons, List.not_mem_nil, not_or, or_false, not_false_eq_true] <;> omega
theorem rwTN_32 {k : Nat} (h : k ≠ 8) : 32 ∉ rwT k := by
  unfold rwT
  split <;> simp only [List.mem_cons, List.not_mem_nil, not_or, or_false, not_false_eq_true] <;> omega
theorem rwTN_33 {k : Nat} (h : k ≠ 4 ∧ k ≠ 5) : 33 ∉ rwT k := by
  unfold rwT
  split <;> simp only [List.mem_cons, List.not_mem_nil, not_or, or_false, not_false_eq_true] <;> omega
theorem rwTN_34 {k : Nat} (h : k ≠ 23) : 34 ∉ rwT k := by
  unfold rwT
  split <;> simp only [List.mem_cons, List.not_mem_nil, not_or, or_false, not_false_eq_true] <;> omega
theorem rwTN_35 {k : Nat} (h : k ≠ 23) : 35 ∉ rwT k := by
  unfold rwT
  split <;> simp only [List.mem_cons, List.not_mem_nil, not_or, or_false, not_false_eq_true] <;> omega
theorem rwTN_36 {k : Nat} (h : k ≠ 23) : 36 ∉ rwT k := by
  unfold rwT
  split <;> simp only [List.mem_cons, List.not_mem_nil, not_or, or_false, not_false_eq_true] <;> omega
theorem rwTN_37 {k : Nat} (h : k ≠ 23) : 37 ∉ rwT k := by
  unfold rwT
  split <;> simp only [List.mem_cons, List.not_mem_nil, not_or, or_false, not_false_eq_true] <;> omega
theorem rfsN_1 {k : Nat} (h : k ≠ 0) : 1 ∉ rfs k := by
  unfold rfs
  split <;> simp only [List.mem_cons, List.not_mem_nil, not_or, or_false, not_false_eq_true] <;> omega
theorem rfsN_2 {k : Nat} (h : k ≠ 1) : 2 ∉ rfs k := by
  unfold rfs
  split <;> simp only [List.mem_cons, List.not_mem_nil, not_or, or_false, not_false_eq_true] <;> omega
theorem rfsN_3 {k : Nat} (h : k ≠ 0) : 3 ∉ rfs k := by
  unfold rfs
  split <;> simp only [List.mem_cons, List.not_mem_nil, not_or, or_false, not_false_eq_true] <;> omega
theorem rfsN_4 {k : Nat} (h : k ≠ 3) : 4 ∉ rfs k := by
  unfold rfs
  split <;> simp only [List.mem_cons, List.not_mem_nil, not_or, or_false, not_false_eq_true] <;> omega
theorem rfsN_5 {k : Nat} (h : k ≠ 4) : 5 ∉ rfs k := by
  unfold rfs
  split <;> simp only [List.mem_cons, List.not_mem_nil, not_or, or_false, not_false_eq_true] <;> omega
theorem rfsN_6 {k : Nat} (h : k ≠ 0) : 6 ∉ rfs k := by
  unfold rfs
  split <;> simp only [List.mem_cons, List.not_mem_nil, not_or, or_false, not_false_eq_true] <;> omega
theorem rfsN_7 {k : Nat} (h : k ≠ 6) : 7 ∉ rfs k := by
  unfold rfs
  split <;> simp only [List.mem_cons, List.not_mem_nil, not_or, or_false, not_false_eq_true] <;> omega
theorem rfsN_8 {k : Nat} (h : k ≠ 0) : 8 ∉ rfs k := by
  unfold rfs
  split <;> simp only [List.mem_cons, List.not_mem_nil, not_or, or_false, not_false_eq_true] <;> omega
theorem rfsN_9 {k : Nat} (h : k ≠ 8) : 9 ∉ rfs k := by
  unfold rfs
  split <;> simp only [List.mem_cons, List.not_mem_nil, not_or, or_false, not_false_eq_true] <;> omega
theorem rfsN_10 {k : Nat} (h : k ≠ 9) : 10 ∉ rfs k := by
  unfold rfs
  split <;> simp only [List.mem_cons, List.not_mem_nil, not_or, or_false, not_false_eq_true] <;> omega
theorem rfsN_11 {k : Nat} (h : k ≠ 8) : 11 ∉ rfs k := by
  unfold rfs
  split <;> simp only [List.mem_cons, List.not_mem_nil, not_or, or_false, not_false_eq_true] <;> omega
theorem rfsN_12 {k : Nat} (h : k ≠ 8) : 12 ∉ rfs k := by
  unfold rfs
  split <;> simp only [List.mem_cons, List.not_mem_nil, not_or, or_false, not_false_eq_true] <;> omega
theorem rfsN_13 {k : Nat} (h : k ≠ 2) : 13 ∉ rfs k := by
  unfold rfs
  split <;> simp only [List.mem_cons, List.not_mem_nil, not_or, or_false, not_false_eq_true] <;> omega
theorem rfsN_14 {k : Nat} (h : k ≠ 13) : 14 ∉ rfs k := by
  unfold rfs
  split <;> simp only [List.mem_cons, List.not_mem_nil, not_or, or_false, not_false_eq_true] <;> omega
theorem rfsN_15 {k : Nat} (h : k ≠ 14) : 15 ∉ rfs k := by
  unfold rfs
  split <;> simp only [List.mem_cons, List.not_mem_nil, not_or, or_false, not_false_eq_true] <;> omega
theorem rfsN_16 {k : Nat} (h : k ≠ 15) : 16 ∉ rfs k := by
  unfold rfs
  split <;> simp only [List.mem_cons, List.not_mem_nil, not_or, or_false, not_false_eq_true] <;> omega
theorem rfsN_17 {k : Nat} (h : k ≠ 16) : 17 ∉ rfs k := by
  unfold rfs
  split <;> simp only [List.mem_cons, List.not_mem_nil, not_or, or_false, not_false_eq_true] <;> omega
theorem rfsN_18 {k : Nat} (h : k ≠ 17) : 18 ∉ rfs k := by
  unfold rfs
  split <;> simp only [List.mem_cons, List.not_mem_nil, not_or, or_false, not_false_eq_true] <;> omega
theorem rfsN_19 {k : Nat} (h : k ≠ 18) : 19 ∉ rfs k := by
  unfold rfs
  split <;> simp only [List.mem_cons, List.not_mem_nil, not_or, or_false, not_false_eq_true] <;> omega
theorem rfsN_20 {k : Nat} (h : k ≠ 7) : 20 ∉ rfs k := by
  unfold rfs
  split <;> simp only [List.mem_cons, List.not_mem_nil, not_or, or_false, not_false_eq_true] <;> omega
theorem rfsN_21 {k : Nat} (h : k ≠ 20) : 21 ∉ rfs k := by
  unfold rfs
  split <;> simp only [List.mem_cons, List.not_mem_nil, not_or, or_false, not_false_eq_true] <;> omega
theorem rfsN_22 {k : Nat} (h : k ≠ 10) : 22 ∉ rfs k := by
  unfold rfs
  split <;> simp only [List.mem_cons, List.not_mem_nil, not_or, or_false, not_false_eq_true] <;> omega
theorem rfsN_23 {k : Nat} (h : k ≠ 5) : 23 ∉ rfs k := by
  unfold rfs
  split <;> simp only [List.mem_cons, List.not_mem_nil, not_or, or_false, not_false_eq_true] <;> omega
section
variable {κ : Nat → Nat} {A σ τ : xS} {h0 ah : xH}
theorem rws12 {k : Nat} : 12 ∉ rws k ∧ 13 ∉ rws k ∧ 22 ∉ rws k ∧ 24 ∉ rws k ∧ 25 ∉ rws k := by
  refine ⟨?_, ?_, ?_, ?_, ?_⟩ <;> (unfold rws; split <;> simp only [List.mem_cons, List.not_mem_nil, not_or, or_false, not_false_eq_true] <;> omega)
theorem cC_A {k j x k' i' : Nat} (h : k ∉ rfs k') : cC κ (su A k j x) σ τ k' i' = cC κ A σ τ k' i' := by
  unfold cC rwA
  unfold rfs at h
  split <;> simp only [List.mem_cons, List.not_mem_nil, not_or, or_false] at h <;> simp (disch := omega) only [su_nr]
theorem rcell_cg {N n : Nat} {g g' : Nat → Nat} (h : ∀ i, i < n → g i = g' i) : rcell N n g = rcell N n g' := by
  unfold rcell
  have : (fun i => if i < n then some (g i) else none) = fun i => if i < n then some (g' i) else none := by
    funext i
    by_cases hi : i < n
    · rw [if_pos hi, if_pos hi, h i hi]
    · rw [if_neg hi, if_neg hi]
  rw [this]
theorem HR.fresh {U : Nat → Nat → Prop} {C : Nat → Nat → xO} {x : Nat} (h : HR A U C h0 ah) (hx : ah x = none) (o : xO) : HR A U C h0 (xup ah x o) := by
  obtain ⟨h1, h2, h3⟩ := h
  refine ⟨fun k i hu => ?_, h2, fun a p ha => ⟨?_, (h3 a p ha).2⟩⟩
  · rw [xup_ne _ _ (xis_ne (h1 k i hu) hx)]
    exact h1 k i hu
  · rw [xup_ne _ _ (xis_ne (h3 a p ha).1 hx)]
    exact (h3 a p ha).1
theorem CR.fresh {x : Nat} (h : CR κ A σ τ h0 ah) (hx : ah x = none) (o : xO) : CR κ A σ τ h0 (xup ah x o) := ⟨h.1.fresh hx o, h.2⟩
theorem HR.ladd {U : Nat → Nat → Prop} {C : Nat → Nat → xO} {k i e' : Nat} {o1 o2 : xO} {ah' : xH} (h : HR A U C h0 ah) (hl : U k i) (hc : (e' = A (k + 1) i ∧ U (k + 1) i) ∨ ah e' = none) (h1 : ah' (A k i) = some o1) (h2 : ah' e' = some o2) (hne : A k i ≠ e') (h3 : ∀ a, a ≠ A k i → a ≠ e' → ah' a = ah a) :
    HR (su A (k + 1) i e') (fun k' i' => (k' = k + 1 ∧ i' = i) ∨ U k' i') (cu (cu C (k + 1) i o2) k i o1) h0 ah' := by
  obtain ⟨g1, g2, g3⟩ := h
  have hd : ∀ k' i', U k' i' → ¬ (k' = k + 1 ∧ i' = i) → A k' i' ≠ e' := by
    intro k' i' hu hn e
    rcases hc with ⟨q1, q2⟩ | q
    · exact hn (g2 k' i' (k + 1) i hu q2 (e.trans q1))
    · exact xis_ne (g1 k' i' hu) q e
  have h0e : ∀ a p, h0 a = some p → a ≠ e' := by
    intro a p ha e
    rcases hc with ⟨q1, q2⟩ | q
    · exact (g3 a p ha).2 (k + 1) i q2 (e.trans q1)
    · exact xis_ne (g3 a p ha).1 q e
  refine ⟨fun k' i' hu => ?_, fun k1 i1 k2 i2 u1 u2 e => ?_, fun a p ha => ⟨?_, fun k' i' hu => ?_⟩⟩
  · by_cases e : k' = k + 1 ∧ i' = i
    · rw [e.1, e.2, su_eq, h2]
      unfold cu
      rw [if_neg (fun q => absurd q.1 (by omega)), if_pos ⟨rfl, rfl⟩]
    · have hu' := hu.elim (fun q => absurd q e) id
      rw [su_ne e]
      unfold cu
      by_cases e2 : k' = k ∧ i' = i
      · rw [if_pos e2, e2.1, e2.2]
        exact h1
      · rw [if_neg e2, if_neg e, h3 _ (fun q => e2 (g2 _ _ _ _ hu' hl q)) (hd _ _ hu' e)]
        exact g1 _ _ hu'
  · by_cases e1 : k1 = k + 1 ∧ i1 = i <;> by_cases e2 : k2 = k + 1 ∧ i2 = i
    · exact ⟨e1.1.trans e2.1.symm, e1.2.trans e2.2.symm⟩
    · have hu' := u2.elim (fun q => absurd q e2) id
      rw [e1.1, e1.2, su_eq, su_ne e2] at e
      exact absurd e.symm (hd _ _ hu' e2)
    · have hu' := u1.elim (fun q => absurd q e1) id
      rw [e2.1, e2.2, su_eq, su_ne e1] at e
      exact absurd e (hd _ _ hu' e1)
    · rw [su_ne e1, su_ne e2] at e
      exact g2 _ _ _ _ (u1.elim (fun q => absurd q e1) id) (u2.elim (fun q => absurd q e2) id) e
  · rw [h3 a ((g3 a p ha).2 k i hl) (h0e a p ha)]
    exact (g3 a p ha).1
  · by_cases e : k' = k + 1 ∧ i' = i
    · rw [e.1, e.2, su_eq]
      exact h0e a p ha
    · rw [su_ne e]
      exact (g3 a p ha).2 _ _ (hu.elim (fun q => absurd q e) id)
theorem rwA_ne {k i : Nat} (h : ¬ τ (k + 1) i = 0) : rwA κ A τ k i = A (k + 1) i := if_neg h
end

