/-! the law: what holds from round to round -/
def Pk (ad : Nat → Nat) (m o d a : Nat) : Prop := a = m ∨ (∃ c, c ∈ mArrs ∧ a = ad c) ∨ a = o ∨ a = d
/-- the part of the heap that P tells of -/
noncomputable def msk (P : Nat → Prop) (ah : xH) : xH := fun a => xi (P a) (ah a) none
/-- the model with its state, the class with its own, and the two cells for what is given back -/
def G2 (κ ad : Nat → Nat) (m o d x : Nat) (A τ σ σ' : xS) (ah : xH) (th : Nat) : Prop :=
  MR ad m ah ah σ th ∧ CR κ A σ' τ (msk (Pk ad m o d) ah) ah ∧ A 0 0 = x ∧ (∃ f, ah o = some (.inl (3, 1, .inr (.inl f)))) ∧ (∃ f, ah d = some (.inl (4, 1, .inr (.inr (.inr (.inl f)))))) ∧ (o ≠ m ∧ d ≠ m ∧ o ≠ d ∧ ∀ c, c ∈ mArrs → ad c ≠ o ∧ ad c ≠ d)
def GI (κ ad : Nat → Nat) (m o d x : Nat) (A τ σ : xS) (ah : xH) (th i : Nat) : Prop := G2 κ ad m o d x A τ σ σ ah th ∧ MI σ ∧ NJ σ ∧ LK σ τ ∧ τ 33 0 ≤ i
section
variable {κ ad : Nat → Nat} {m o d x : Nat} {A τ σ σ' : xS} {h0 ah ah' : xH} {th i : Nat} {P : Nat → Prop}
theorem MR.tr (h : MR ad m h0 ah σ th) (he : ∀ a, a = m ∨ (∃ c, c ∈ mArrs ∧ a = ad c) → ah' a = ah a) : MR ad m ah' ah' σ th := by
  obtain ⟨h1, h2, h3, h4, -⟩ := h
  have ef : ∀ c, xfld ah' m 11 c = xfld ah m 11 c := fun c => by unfold xfld; rw [he m (Or.inl rfl)]
  refine ⟨by rw [ef]; exact h1, fun c hc => by rw [ef]; exact h2 c hc, fun c hc => ?_, h4, fun _ _ _ => rfl⟩
  obtain ⟨q1, f, q2, q3⟩ := h3 c hc
  refine ⟨by rw [ef]; exact q1, f, ?_, q3⟩
  unfold xai at q2 ⊢
  rw [he _ (Or.inr ⟨c, hc, rfl⟩)]
  exact q2
theorem MR.som (h : MR ad m h0 ah σ th) {a : Nat} (ha : a = m ∨ (∃ c, c ∈ mArrs ∧ a = ad c)) : ∃ e, ah a = some e := by
  rcases ha with rfl | ⟨c, hc, rfl⟩
  · have := h.1
    unfold xfld at this
    split at this
    · exact ⟨_, by assumption⟩
    · cases this
  · obtain ⟨-, f, q2, -⟩ := h.2.2.1 c hc
    unfold xai at q2
    split at q2
    · exact ⟨_, by assumption⟩
    · cases q2
theorem G2.som (g : G2 κ ad m o d x A τ σ σ' ah th) {a : Nat} (ha : Pk ad m o d a) : ∃ e, ah a = some e := by
  obtain ⟨g1, g2, g3, ⟨f, g4⟩, ⟨f', g5⟩, g6⟩ := g
  rcases ha with q | q | rfl | rfl
  · exact g1.som (Or.inl q)
  · exact g1.som (Or.inr q)
  · exact ⟨_, g4⟩
  · exact ⟨_, g5⟩
theorem CR.af (hs : ∀ a, P a → ∃ e, ah a = some e) (h : CR κ A σ τ (msk P ah) ah') : (∀ a, P a → ah' a = ah a) ∧ CR κ A σ τ (msk P ah') ah' := by
  have e : ∀ a, P a → ah' a = ah a := fun a ha => by
    obtain ⟨e, he⟩ := hs a ha
    rw [he]
    exact (h.1.2.2 a e (by unfold msk; rw [xi_t ha]; exact he)).1
  have em : msk P ah' = msk P ah := by
    funext a
    unfold msk
    by_cases ha : P a
    · rw [xi_t ha, xi_t ha, e a ha]
    · rw [xi_f ha, xi_f ha]
  exact ⟨e, by rw [em]; exact h⟩
theorem CR.out (h : CR κ A σ τ (msk P ah) ah) {k j : Nat} (hu : cU σ τ k j) : ¬ P (A k j) := fun ha => by
  have h1 := h.1.1 k j hu
  exact (h.1.2.2 (A k j) _ (by unfold msk; rw [xi_t ha]; exact h1)).2 k j hu rfl
theorem CR.mv (h : CR κ A σ τ (msk P ah) ah) (he : ∀ a, ¬ P a → ah' a = ah a) : CR κ A σ τ (msk P ah') ah' := by
  refine ⟨⟨fun k j hu => ?_, h.1.2.1, fun a e ha => ?_⟩, h.2⟩
  · rw [he _ (h.out hu)]
    exact h.1.1 k j hu
  · unfold msk at ha
    by_cases hp : P a
    · rw [xi_t hp] at ha
      exact ⟨ha, fun k j hu q => h.out hu (by rw [← q]; exact hp)⟩
    · rw [xi_f hp] at ha
      cases ha
/-- the class has done it -/
theorem G2.cl (g : G2 κ ad m o d x A τ σ σ ah th) {A' τ' : xS} (c : CR κ A' σ' τ' (msk (Pk ad m o d) ah) ah') (e : A' 0 0 = A 0 0) : G2 κ ad m o d x A' τ' σ σ' ah' th := by
  obtain ⟨q1, q2⟩ := CR.af (fun a ha => g.som ha) c
  obtain ⟨g1, g2, g3, ⟨f, g4⟩, ⟨f', g5⟩, g6⟩ := g
  exact ⟨g1.tr (fun a ha => q1 a (ha.elim Or.inl (fun q => Or.inr (Or.inl q)))), q2, e.trans g3, ⟨f, by rw [q1 o (Or.inr (Or.inr (Or.inl rfl)))]; exact g4⟩, ⟨f', by rw [q1 d (Or.inr (Or.inr (Or.inr rfl)))]; exact g5⟩, g6⟩
theorem G2.out (g : G2 κ ad m o d x A τ σ σ' ah th) (f : Nat → Int64) : G2 κ ad m o d x A τ σ σ' (xup ah o (.inl (3, 1, .inr (.inl f)))) th := by
  obtain ⟨g1, g2, g3, -, ⟨f', g5⟩, g6⟩ := g
  obtain ⟨n1, n2, n3, n4⟩ := id g6
  refine ⟨g1.tr (fun a ha => ?_), g2.mv (fun a ha => xup_ne _ _ (fun q => ha (Or.inr (Or.inr (Or.inl q))))), g3, ⟨f, xup_self _ _ _⟩, ⟨f', by rw [xup_ne _ _ (fun q => n3 q.symm)]; exact g5⟩, g6⟩
  rcases ha with rfl | ⟨c, hc, rfl⟩
  · exact xup_ne _ _ (fun q => n1 q.symm)
  · exact xup_ne _ _ (n4 c hc).1
theorem G2.outD (g : G2 κ ad m o d x A τ σ σ' ah th) (f : Nat → UInt64) : G2 κ ad m o d x A τ σ σ' (xup ah d (.inl (4, 1, .inr (.inr (.inr (.inl f)))))) th := by
  obtain ⟨g1, g2, g3, ⟨f', g4⟩, -, g6⟩ := g
  obtain ⟨n1, n2, n3, n4⟩ := id g6
  refine ⟨g1.tr (fun a ha => ?_), g2.mv (fun a ha => xup_ne _ _ (fun q => ha (Or.inr (Or.inr (Or.inr q))))), g3, ⟨f', by rw [xup_ne _ _ n3]; exact g4⟩, ⟨f, xup_self _ _ _⟩, g6⟩
  rcases ha with rfl | ⟨c, hc, rfl⟩
  · exact xup_ne _ _ (fun q => n2 q.symm)
  · exact xup_ne _ _ (n4 c hc).2
/-- the model has done it -/
theorem G2.md (g : G2 κ ad m o d x A τ σ σ' ah th) {σ2 : xS} {t2 : Nat} (h : MR ad m ah ah' σ2 t2) : G2 κ ad m o d x A τ σ2 σ' ah' t2 := by
  obtain ⟨g1, g2, g3, ⟨f, g4⟩, ⟨f', g5⟩, g6⟩ := g
  obtain ⟨n1, n2, n3, n4⟩ := id g6
  have e : ∀ a, a ≠ m → (∀ c ∈ mArrs, a ≠ ad c) → ah' a = ah a := h.2.2.2.2
  refine ⟨h.tr (fun _ _ => rfl), g2.mv (fun a ha => e a (fun q => ha (Or.inl q)) (fun c hc q => ha (Or.inr (Or.inl ⟨c, hc, q⟩)))), g3, ⟨f, by rw [e o n1 (fun c hc q => (n4 c hc).1 q.symm)]; exact g4⟩, ⟨f', by rw [e d n2 (fun c hc q => (n4 c hc).2 q.symm)]; exact g5⟩, g6⟩
theorem G2.st {σ2 σ3 : xS} (g : G2 κ ad m o d x A τ σ σ' ah th) (e1 : σ2 = σ) (e2 : σ3 = σ') : G2 κ ad m o d x A τ σ2 σ3 ah th := by rw [e1, e2]; exact g
end
