/-! the class's heap: addresses A, roles in use U, what lies there C; h0: what is kept -/
def HR (A : Nat → Nat → Nat) (U : Nat → Nat → Prop) (C : Nat → Nat → xO) (h0 ah : xH) : Prop :=
  (∀ k i, U k i → ah (A k i) = some (C k i)) ∧ (∀ k i k' i', U k i → U k' i' → A k i = A k' i' → k = k' ∧ i = i') ∧ (∀ a o, h0 a = some o → ah a = some o ∧ ∀ k i, U k i → a ≠ A k i)
def cu (C : Nat → Nat → xO) (k i : Nat) (o : xO) : Nat → Nat → xO := fun k' i' => if k' = k ∧ i' = i then o else C k' i'
theorem HR.wr {A : Nat → Nat → Nat} {U : Nat → Nat → Prop} {C : Nat → Nat → xO} {h0 ah : xH} {k i : Nat} (h : HR A U C h0 ah) (hu : U k i) (o : xO) : HR A U (cu C k i o) h0 (xup ah (A k i) o) := by
  obtain ⟨h1, h2, h3⟩ := h
  refine ⟨fun k' i' hu' => ?_, h2, fun a p ha => ⟨?_, (h3 a p ha).2⟩⟩
  · unfold cu
    by_cases e : k' = k ∧ i' = i
    · rw [if_pos e, e.1, e.2, xup_self]
    · rw [if_neg e, xup_ne _ _ (fun q => e (h2 k' i' k i hu' hu q))]
      exact h1 k' i' hu'
  · rw [xup_ne _ _ ((h3 a p ha).2 k i hu)]
    exact (h3 a p ha).1
theorem HR.nw {A : Nat → Nat → Nat} {U : Nat → Nat → Prop} {C : Nat → Nat → xO} {h0 ah : xH} {k i x : Nat} (h : HR A U C h0 ah) (hx : ah x = none) (hn : ¬ U k i) (o : xO) : HR (su A k i x) (fun k' i' => (k' = k ∧ i' = i) ∨ U k' i') (cu C k i o) h0 (xup ah x o) := by
  obtain ⟨h1, h2, h3⟩ := h
  have hA : ∀ k' i', U k' i' → A k' i' ≠ x := fun k' i' hu e => by
    have := h1 k' i' hu
    rw [e, hx] at this
    cases this
  have hne : ∀ k' i', U k' i' → ¬ (k' = k ∧ i' = i) := fun k' i' hu e => hn (by rw [← e.1, ← e.2]; exact hu)
  refine ⟨fun k' i' hu => ?_, fun k1 i1 k2 i2 u1 u2 e => ?_, fun a p ha => ⟨?_, fun k' i' hu => ?_⟩⟩
  · unfold cu su
    by_cases e : k' = k ∧ i' = i
    · rw [if_pos e, if_pos e, xup_self]
    · have hu' := hu.elim (fun q => absurd q e) id
      rw [if_neg e, if_neg e, xup_ne _ _ (hA k' i' hu')]
      exact h1 k' i' hu'
  · unfold su at e
    rcases u1 with u1 | u1 <;> rcases u2 with u2 | u2
    · exact ⟨u1.1.trans u2.1.symm, u1.2.trans u2.2.symm⟩
    · rw [if_pos u1, if_neg (hne _ _ u2)] at e
      exact absurd e.symm (hA _ _ u2)
    · rw [if_neg (hne _ _ u1), if_pos u2] at e
      exact absurd e (hA _ _ u1)
    · rw [if_neg (hne _ _ u1), if_neg (hne _ _ u2)] at e
      exact h2 _ _ _ _ u1 u2 e
  · have : a ≠ x := fun e => by
      have := (h3 a p ha).1
      rw [e, hx] at this
      cases this
    rw [xup_ne _ _ this]
    exact (h3 a p ha).1
  · unfold su
    rcases hu with hu | hu
    · rw [if_pos hu]
      intro e
      have := (h3 a p ha).1
      rw [e, hx] at this
      cases this
    · rw [if_neg (hne _ _ hu)]
      exact (h3 a p ha).2 _ _ hu
theorem HR.cg {A A' : Nat → Nat → Nat} {U U' : Nat → Nat → Prop} {C C' : Nat → Nat → xO} {h0 ah : xH} (h : HR A U C h0 ah) (hU : ∀ k i, U' k i → U k i) (hA : ∀ k i, U' k i → A' k i = A k i) (hC : ∀ k i, U' k i → C' k i = C k i) : HR A' U' C' h0 ah := by
  obtain ⟨h1, h2, h3⟩ := h
  refine ⟨fun k i hu => by rw [hA k i hu, hC k i hu]; exact h1 k i (hU k i hu), fun k1 i1 k2 i2 u1 u2 e => ?_, fun a p ha => ⟨(h3 a p ha).1, fun k i hu => ?_⟩⟩
  · rw [hA _ _ u1, hA _ _ u2] at e
    exact h2 _ _ _ _ (hU _ _ u1) (hU _ _ u2) e
  · rw [hA k i hu]
    exact (h3 a p ha).2 k i (hU k i hu)
def sv (σ : xS) (a : Nat) : Prop := a / 12 < σ 3 0 ∧ a % 12 < σ 4 (a / 12)
def cU (σ τ : xS) (k i : Nat) : Prop := match k with
  | 0 => i = 0
  | 1 => i = 0
  | 2 => i = 0 ∧ ¬ τ 2 0 = 0
  | 3 => i = 0
  | 4 => i = 0
  | 5 => i = 0 ∧ ¬ τ 5 0 = 0
  | 6 => i = 0
  | 7 => i = 0 ∧ ¬ τ 7 0 = 0
  | 8 => i = 0
  | 9 => i = 0
  | 10 => i = 0 ∧ ¬ τ 10 0 = 0
  | 11 => i = 0
  | 12 => i = 0
  | 13 => i < σ 3 0
  | 14 => i < σ 3 0
  | 15 => i < σ 3 0 ∧ ¬ τ 15 i = 0
  | 16 => sv σ i
  | 17 => sv σ i
  | 18 => sv σ i ∧ ¬ τ 18 i = 0
  | 19 => sv σ (i / 6) ∧ i % 6 < σ 8 (i / 6)
  | 20 => i < σ 16 0
  | 21 => i < σ 16 0
  | 22 => i < σ 20 0
  | 23 => i < τ 33 0
  | _ => False
def rwA (κ : Nat → Nat) (A τ : xS) (k i : Nat) : Nat := if τ (k + 1) i = 0 then κ 9 else A (k + 1) i
def mo1 (n : Nat) : Int32 := if n = 0 then -1 else 1
def cC (κ : Nat → Nat) (A σ τ : xS) (k i : Nat) : xO := match k with
  | 0 => .inr (10, [.ref (A 1 0), .ref (A 3 0), .ref (A 6 0), .ref (A 8 0), .int (nI (σ 0 0)), .int (nI (σ 1 0)), .int (nI (σ 2 0))])
  | 1 => lcell (nI (τ 1 0)) (rwA κ A τ 1 0) (σ 3 0)
  | 2 => rcell (τ 2 0) (σ 3 0) (fun j => A 13 j)
  | 3 => .inr (5, [.ref (A 4 0)])
  | 4 => lcell (nI (τ 4 0)) (rwA κ A τ 4 0) (τ 33 0)
  | 5 => rcell (τ 5 0) (τ 33 0) (fun j => A 23 j)
  | 6 => lcell (nI (τ 6 0)) (rwA κ A τ 6 0) (σ 16 0)
  | 7 => rcell (τ 7 0) (σ 16 0) (fun j => A 20 j)
  | 8 => .inr (4, [.ref (A 9 0), .ref (A 11 0), .ref (A 12 0), .long (lN (τ 32 0))])
  | 9 => lcell (nI (τ 9 0)) (rwA κ A τ 9 0) (σ 20 0)
  | 10 => rcell (τ 10 0) (σ 20 0) (fun j => A 22 j)
  | 11 => .inl (0, 10, .inl (fun j => if j < 10 then nI (σ 19 j) else 0))
  | 12 => .inl (0, 48, .inl (fun j => if j < 48 then cv 23 (σ 23 j) else 0))
  | 13 => .inr (9, [.ref (A 14 i), .int (nI (σ 6 i))])
  | 14 => lcell (nI (τ 14 i)) (rwA κ A τ 14 i) (σ 4 i)
  | 15 => rcell (τ 15 i) (σ 4 i) (fun j => A 16 (12 * i + j))
  | 16 => .inr (8, [.ref (κ (4 + σ 5 (i / 12))), .ref (A 17 i), .int (nI (σ 7 i))])
  | 17 => lcell (nI (τ 17 i)) (rwA κ A τ 17 i) (σ 8 i)
  | 18 => rcell (τ 18 i) (σ 8 i) (fun j => A 19 (6 * i + j))
  | 19 => .inr (2, [.ref (κ (σ 9 i)), .int (nI (σ 10 i)), .int (nI (σ 11 i)), .int (nI (σ 14 i)), .int (nI (σ 15 i)), .int (nI (τ 30 i))])
  | 20 => .inr (7, [.ref (A 21 i), .int (nI (σ 17 i))])
  | 21 => .inl (0, 8, .inl (fun j => if j < σ 17 i then nI (σ 18 (8 * i + j)) else 0))
  | 22 => .inr (6, [.int (nI (σ 21 i)), .long (lN (τ 31 i))])
  | 23 => .inr (3, [.int (nI (τ 34 i)), .int (nI (τ 35 i)), .int (nI (τ 36 i)), .int (mo1 (τ 37 i))])
  | _ => .inr (99, [])
def lw (N n : Nat) : Prop := (N = 0 ∧ n = 0) ∨ (n ≤ N ∧ N ∈ caps)
def CW (σ τ : xS) : Prop := lw (τ 2 0) (σ 3 0) ∧ lw (τ 5 0) (τ 33 0) ∧ lw (τ 7 0) (σ 16 0) ∧ lw (τ 10 0) (σ 20 0) ∧ (∀ w, w < σ 3 0 → lw (τ 15 w) (σ 4 w)) ∧ (∀ a, sv σ a → lw (τ 18 a) (σ 8 a))
def CR (κ : Nat → Nat) (A σ τ : xS) (h0 ah : xH) : Prop := HR A (cU σ τ) (cC κ A σ τ) h0 ah ∧ CW σ τ
def rws (k : Nat) : List Nat := match k with
  | 0 => [0, 1, 2]
  | 1 => [3]
  | 2 => [3]
  | 3 => []
  | 4 => []
  | 5 => []
  | 6 => [16]
  | 7 => [16]
  | 8 => []
  | 9 => [20]
  | 10 => [20]
  | 11 => [19]
  | 12 => [23]
  | 13 => [6]
  | 14 => [4]
  | 15 => [4]
  | 16 => [5, 7]
  | 17 => [8]
  | 18 => [8]
  | 19 => [9, 10, 11, 14, 15]
  | 20 => [17]
  | 21 => [17, 18]
  | 22 => [21]
  | 23 => []
  | _ => []
def rwT (k : Nat) : List Nat := match k with
  | 0 => []
  | 1 => [1, 2]
  | 2 => [2]
  | 3 => []
  | 4 => [4, 5, 33]
  | 5 => [5, 33]
  | 6 => [6, 7]
  | 7 => [7]
  | 8 => [32]
  | 9 => [9, 10]
  | 10 => [10]
  | 11 => []
  | 12 => []
  | 13 => []
  | 14 => [14, 15]
  | 15 => [15]
  | 16 => []
  | 17 => [17, 18]
  | 18 => [18]
  | 19 => [30]
  | 20 => []
  | 21 => []
  | 22 => [31]
  | 23 => [34, 35, 36, 37]
  | _ => []
section
variable {κ : Nat → Nat} {A σ τ : xS} {h0 ah : xH}
theorem nm_c {c a : Nat} {l : List Nat} (h : c ∉ a :: l) : c ≠ a ∧ c ∉ l := ⟨fun e => h (e ▸ List.mem_cons_self), fun e => h (List.mem_cons_of_mem _ e)⟩
theorem su_nr {c i v c' i' : Nat} (h : c ≠ c') : su σ c i v c' i' = σ c' i' := su_ne (fun e => h e.1.symm)
theorem cC_row {c i v k' i' : Nat} (h : c ∉ rws k') : cC κ A (su σ c i v) τ k' i' = cC κ A σ τ k' i' := by
  unfold cC
  unfold rws at h
  split <;> simp only [List.mem_cons, List.not_mem_nil, not_or, or_false] at h <;> simp (disch := omega) only [su_nr]
theorem cC_rowT {c i v k' i' : Nat} (h : c ∉ rwT k') : cC κ A σ (su τ c i v) k' i' = cC κ A σ τ k' i' := by
  unfold cC rwA
  unfold rwT at h
  split <;> simp only [List.mem_cons, List.not_mem_nil, not_or, or_false] at h <;> simp (disch := omega) only [su_nr]
theorem sv_row {c i v a : Nat} (h : c ≠ 3 ∧ c ≠ 4) : sv (su σ c i v) a = sv σ a := by
  unfold sv
  simp (disch := omega) only [su_nr]
theorem cU_row {c i v k' i' : Nat} (h : c ∉ [3, 4, 8, 16, 20]) : cU (su σ c i v) τ k' i' = cU σ τ k' i' := by
  simp only [List.mem_cons, List.not_mem_nil, not_or, or_false] at h
  unfold cU
  split <;> simp (disch := omega) only [su_nr, sv_row]
theorem cU_rowT {c i v k' i' : Nat} (h : c ∉ [2, 5, 7, 10, 15, 18, 33]) : cU σ (su τ c i v) k' i' = cU σ τ k' i' := by
  simp only [List.mem_cons, List.not_mem_nil, not_or, or_false] at h
  unfold cU
  split <;> simp (disch := omega) only [su_nr]
theorem CW_row {c i v : Nat} (h : c ∉ [3, 4, 8, 16, 20]) : CW (su σ c i v) τ = CW σ τ := by
  simp only [List.mem_cons, List.not_mem_nil, not_or, or_false] at h
  unfold CW
  simp (disch := omega) only [su_nr, sv_row]
theorem CW_rowT {c i v : Nat} (h : c ∉ [2, 5, 7, 10, 15, 18, 33]) : CW σ (su τ c i v) = CW σ τ := by
  simp only [List.mem_cons, List.not_mem_nil, not_or, or_false] at h
  unfold CW
  simp (disch := omega) only [su_nr]
theorem CR.skip (h : CR κ A σ τ h0 ah) {c i v : Nat} (hc : c ∈ [12, 13, 22, 24, 25]) : CR κ A (su σ c i v) τ h0 ah := by
  have hc' : c ∉ [3, 4, 8, 16, 20] := (show ∀ c ∈ [12, 13, 22, 24, 25], c ∉ [3, 4, 8, 16, 20] from by decide) c hc
  refine ⟨h.1.cg (fun k i' hu => by rw [cU_row hc'] at hu; exact hu) (fun _ _ _ => rfl) (fun k i' hu => cC_row ?_), by rw [CW_row hc']; exact h.2⟩
  simp only [List.mem_cons, List.not_mem_nil, or_false] at hc
  unfold rws
  split <;> simp only [List.mem_cons, List.not_mem_nil, not_or, or_false, not_false_eq_true] <;> omega
theorem CR.wr (h : CR κ A σ τ h0 ah) {c j v k i : Nat} (hc : c ∉ [3, 4, 8, 16, 20]) (hu : cU σ τ k i) (hk : ∀ k', k' ≠ k → c ∉ rws k') (hi : ∀ i', i' ≠ i → cU σ τ k i' → cC κ A (su σ c j v) τ k i' = cC κ A σ τ k i') : CR κ A (su σ c j v) τ h0 (xup ah (A k i) (cC κ A (su σ c j v) τ k i)) := by
  refine ⟨(h.1.wr hu _).cg (fun k i' hu => by rw [cU_row hc] at hu; exact hu) (fun _ _ _ => rfl) (fun k' i' hu' => ?_), by rw [CW_row hc]; exact h.2⟩
  rw [cU_row hc] at hu'
  unfold cu
  by_cases e : k' = k ∧ i' = i
  · rw [if_pos e, e.1, e.2]
  · rw [if_neg e]
    by_cases e1 : k' = k
    · subst e1
      exact hi i' (fun q => e ⟨rfl, q⟩) hu'
    · exact cC_row (hk k' e1)
end

