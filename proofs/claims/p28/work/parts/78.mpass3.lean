/-! pass: what the days make of each strip -/
def sm (f : Nat → Nat) : Nat → Nat → Nat
  | 0, _ => 0
  | n + 1, a => f a + sm f n (a + 1)
theorem sm_cg {f g : Nat → Nat} : ∀ (n a : Nat), (∀ i, a ≤ i → i < a + n → f i = g i) → sm f n a = sm g n a := by
  intro n
  induction n with
  | zero => intro a _; rfl
  | succ n ih =>
    intro a h
    show f a + sm f n (a + 1) = g a + sm g n (a + 1)
    rw [h a (Nat.le_refl _) (by omega), ih (a + 1) (fun i h1 h2 => h i (by omega) (by omega))]
theorem sm_add {f g : Nat → Nat} : ∀ (n a : Nat), sm (fun i => f i + g i) n a = sm f n a + sm g n a := by
  intro n
  induction n with
  | zero => intro a; rfl
  | succ n ih =>
    intro a
    show f a + g a + sm (fun i => f i + g i) n (a + 1) = f a + sm f n (a + 1) + (g a + sm g n (a + 1))
    rw [ih]
    omega
theorem sm_0 {f : Nat → Nat} : ∀ (n a : Nat), (∀ i, a ≤ i → i < a + n → f i = 0) → sm f n a = 0 := by
  intro n
  induction n with
  | zero => intro a _; rfl
  | succ n ih =>
    intro a h
    show f a + sm f n (a + 1) = 0
    rw [h a (Nat.le_refl _) (by omega), ih (a + 1) (fun i h1 h2 => h i (by omega) (by omega))]
def agr (σ τ : xS) (a : Nat) : Prop := (∀ c i, (c = 1 ∨ c = 2 ∨ c = 6 ∨ c = 8 ∨ c = 9 ∨ c = 10) → τ c i = σ c i) ∧ (∀ c, (c = 12 ∨ c = 13 ∨ c = 14) → τ c (up σ a) = σ c (up σ a))
section
variable {σ τ : xS} {a : Nat}
theorem agr_up (h : agr σ τ a) : up τ a = up σ a := by unfold up; rw [h.1 8 a (by decide)]
theorem agr_off (h : agr σ τ a) : offD τ a = offD σ a := by unfold offD; rw [agr_up h, h.1 8 a (by decide), h.2 13 (by decide)]
theorem agr_ndu (h : agr σ τ a) : ndu τ (up σ a) = ndu σ (up σ a) := by unfold ndu; rw [h.1 9 _ (by decide), h.1 10 _ (by decide)]
theorem agr_mor (h : agr σ τ a) : mor τ a = mor σ a := by unfold mor; rw [h.1 1 _ (by decide), h.1 2 _ (by decide), h.1 6 _ (by decide)]
theorem agr_dryv (h : agr σ τ a) : dryv τ a = dryv σ a := by unfold dryv; rw [agr_off h, agr_up h, agr_ndu h, agr_mor h, h.2 12 (by decide)]
theorem agr_dry1 (h : agr σ τ a) {c : Nat} (hc : c = 12 ∨ c = 13 ∨ c = 14) : dry1 τ a c (up σ a) = dry1 σ a c (up σ a) := by
  by_cases ho : offD σ a
  · have e1 : dry1 σ a = σ := xi_t ho
    have e2 : dry1 τ a = τ := xi_t (by rw [agr_off h]; exact ho)
    rw [e1, e2, h.2 c hc]
  · have ho2 : ¬ offD τ a := by rw [agr_off h]; exact ho
    rcases hc with rfl | rfl | rfl
    · have := dry1_12 ho2
      rw [agr_up h] at this
      rw [this, dry1_12 ho, agr_mor h, h.2 12 (by decide)]
    · have := dry1_13 ho2
      rw [agr_up h] at this
      rw [this, dry1_13 ho, agr_mor h, h.2 12 (by decide), agr_ndu h]
    · have := dry1_14 ho2
      rw [agr_up h] at this
      rw [this, dry1_14 ho, agr_mor h, h.2 12 (by decide), agr_ndu h, h.2 14 (by decide), h.1 9 _ (by decide), h.1 1 _ (by decide)]
theorem up_ne (h8 : ∀ b, b < 120 → σ 8 b ≤ 6) {b : Nat} (ha : a < 120) (hb : b < 120) (h1 : ¬ σ 8 a = 0) (h2 : ¬ σ 8 b = 0) (hne : a ≠ b) : up σ a ≠ up σ b := by
  have := h8 a ha
  have := h8 b hb
  unfold up
  omega
theorem dry1_agr (h8 : ∀ b, b < 120 → σ 8 b ≤ 6) {s : Nat} (ha : a < 120) (hs : s < 120) (hne : a ≠ s) (h1 : ¬ σ 8 a = 0) : agr σ (dry1 σ s) a := by
  refine ⟨fun c i hc => dry1_r (by omega), fun c hc => ?_⟩
  by_cases ho : offD σ s
  · have e1 : dry1 σ s = σ := xi_t ho
    rw [e1]
  · exact dry1_o (fun q => up_ne h8 ha hs h1 (fun q' => ho (Or.inl q')) hne q.2)
theorem fo_dry1_r : ∀ (n s : Nat) (σ : xS) {c i : Nat}, ¬ (c = 12 ∨ c = 13 ∨ c = 14) → fo dry1 n s σ c i = σ c i := by
  intro n
  induction n with
  | zero => intro s σ c i _; rfl
  | succ n ih =>
    intro s σ c i hc
    show fo dry1 n (s + 1) (dry1 σ s) c i = σ c i
    rw [ih (s + 1) (dry1 σ s) hc, dry1_r hc]
theorem fo_dry1_o : ∀ (n s : Nat) (σ : xS) {c i : Nat}, s + n ≤ 120 → (∀ a, s ≤ a → a < s + n → ¬ offD σ a → i ≠ up σ a) → (∀ b, b < 120 → σ 8 b ≤ 6) → fo dry1 n s σ c i = σ c i := by
  intro n
  induction n with
  | zero => intro s σ c i _ _ _; rfl
  | succ n ih =>
    intro s σ c i hn h h8
    show fo dry1 n (s + 1) (dry1 σ s) c i = σ c i
    have e : dry1 σ s c i = σ c i := by
      by_cases ho : offD σ s
      · have e1 : dry1 σ s = σ := xi_t ho
        rw [e1]
      · exact dry1_o (fun q => h s (Nat.le_refl _) (by omega) ho q.2)
    rw [ih (s + 1) (dry1 σ s) (by omega) (fun a h1 h2 h3 => ?_) (fun b hb => by rw [dry1_r (by decide)]; exact h8 b hb), e]
    have eu : up (dry1 σ s) a = up σ a := by unfold up; rw [dry1_r (by decide)]
    rw [eu]
    refine h a (by omega) (by omega) (fun ho => h3 ?_)
    by_cases h0 : σ 8 a = 0
    · exact Or.inl (by rw [dry1_r (by decide)]; exact h0)
    · rw [agr_off (dry1_agr h8 (by omega) (by omega) (by omega) h0)]
      exact ho
theorem fo_dry1_a : ∀ (n s : Nat) (σ : xS) {a c : Nat}, s + n ≤ 120 → s ≤ a → a < s + n → ¬ offD σ a → (∀ b, b < 120 → σ 8 b ≤ 6) → (c = 12 ∨ c = 13 ∨ c = 14) → fo dry1 n s σ c (up σ a) = dry1 σ a c (up σ a) := by
  intro n
  induction n with
  | zero => intro s σ a c _ h1 h2; omega
  | succ n ih =>
    intro s σ a c hn h1 h2 ho h8 hc
    show fo dry1 n (s + 1) (dry1 σ s) c (up σ a) = _
    have h0 : ¬ σ 8 a = 0 := fun q => ho (Or.inl q)
    have h8' : ∀ b, b < 120 → dry1 σ s 8 b ≤ 6 := fun b hb => by rw [dry1_r (by decide)]; exact h8 b hb
    by_cases e : a = s
    · subst e
      refine fo_dry1_o n (a + 1) (dry1 σ a) (by omega) (fun b q1 q2 q3 => ?_) h8'
      have eu : up (dry1 σ a) b = up σ b := by unfold up; rw [dry1_r (by decide)]
      rw [eu]
      refine up_ne h8 (by omega) (by omega) h0 (fun q => q3 (Or.inl (by rw [dry1_r (by decide)]; exact q))) (by omega)
    · have ag := dry1_agr (s := s) h8 (a := a) (by omega) (by omega) e h0
      have := ih (s + 1) (dry1 σ s) (a := a) (c := c) (by omega) (by omega) (by omega) (by rw [agr_off ag]; exact ho) h8' hc
      rw [agr_up ag] at this
      rw [this, agr_dry1 ag hc]
theorem drn_sm : ∀ (n s : Nat) (σ : xS), s + n ≤ 120 → (∀ b, b < 120 → σ 8 b ≤ 6) → drn n s σ = sm (dryv σ) n s := by
  intro n
  induction n with
  | zero => intro s σ _ _; rfl
  | succ n ih =>
    intro s σ hn h8
    show dryv σ s + drn n (s + 1) (dry1 σ s) = dryv σ s + sm (dryv σ) n (s + 1)
    rw [ih (s + 1) (dry1 σ s) (by omega) (fun b hb => by rw [dry1_r (by decide)]; exact h8 b hb)]
    congr 1
    refine sm_cg n (s + 1) (fun i h1 h2 => ?_)
    by_cases h0 : σ 8 i = 0
    · unfold dryv
      rw [xi_t (show offD σ i from Or.inl h0), xi_t (show offD (dry1 σ s) i from Or.inl (by rw [dry1_r (by decide)]; exact h0))]
    · exact agr_dryv (dry1_agr h8 (by omega) (by omega) (by omega) h0)
theorem MI_fo : ∀ (n s : Nat) (σ : xS), s + n ≤ 120 → MI σ → NIc σ → MI (fo dry1 n s σ) ∧ NIc (fo dry1 n s σ) := by
  intro n
  induction n with
  | zero => intro s σ _ h1 h2; exact ⟨h1, h2⟩
  | succ n ih => intro s σ hs h1 h2; exact ih (s + 1) (dry1 σ s) (by omega) (MI_dry1 h1 h2 (by omega)) (NIc_dry1 h2)
def bec (σ : xS) (n a : Nat) : Prop := ¬ offD σ a ∧ ndu σ (up σ a) ≤ σ 12 (up σ a) + n * mor σ a
theorem pasd_all : ∀ (n : Nat) (σ : xS), MI σ → NIc σ → σ 0 0 + n ≤ 2000 →
    (∀ c i, ¬ (c = 12 ∨ c = 13 ∨ c = 14) → ¬ (c = 0 ∧ i = 0) → pasd n σ c i = σ c i) ∧ pasd n σ 0 0 = σ 0 0 + n ∧
    (∀ c i, ¬ (c = 0 ∧ i = 0) → (∀ a, a < 12 * σ 3 0 → ¬ offD σ a → i ≠ up σ a) → pasd n σ c i = σ c i) ∧
    (∀ a, a < 12 * σ 3 0 → bec σ n a → pasd n σ 13 (up σ a) = 1 ∧ ndu σ (up σ a) ≤ pasd n σ 12 (up σ a) ∧ pasd n σ 14 (up σ a) = xi (¬ σ 14 (up σ a) = 0 ∨ (σ 9 (up σ a) = 3 ∧ 30 ≤ σ 1 0)) 1 0) ∧
    (∀ a, a < 12 * σ 3 0 → ¬ offD σ a → ¬ bec σ n a → pasd n σ 13 (up σ a) = 0 ∧ pasd n σ 12 (up σ a) = σ 12 (up σ a) + n * mor σ a ∧ pasd n σ 14 (up σ a) = σ 14 (up σ a)) ∧
    pasv n σ = sm (fun a => xi (bec σ n a) 1 0) (12 * σ 3 0) 0 := by
  intro n
  induction n with
  | zero =>
    intro σ hI hN h2
    have hW := hI.W
    have nb : ∀ a, a < 12 * σ 3 0 → ¬ bec σ 0 a := by
      intro a ha ⟨q1, q2⟩
      rw [Nat.zero_mul, Nat.add_zero] at q2
      have h8 : ¬ σ 8 a = 0 := fun q => q1 (Or.inl q)
      have h13 : σ 13 (up σ a) = 0 := Classical.byContradiction (fun q => q1 (Or.inr q))
      have h6 := hI.w8 (a := a) (by omega)
      have e : up σ a = 6 * a + (σ 8 a - 1) := by unfold up; omega
      have := (hN a (σ 8 a - 1) (by omega) (by omega)).2
      rw [← e] at this
      have := this.mpr q2
      omega
    refine ⟨fun c i _ _ => rfl, rfl, fun c i _ _ => rfl, fun a ha hb => absurd hb (nb a ha), fun a ha ho _ => ⟨Classical.byContradiction (fun q => ho (Or.inr q)), by rw [Nat.zero_mul]; rfl, rfl⟩, ?_⟩
    rw [sm_0 _ _ (fun i h1 h2 => xi_f (nb i (by omega)))]
    rfl
  | succ n ih =>
    intro σ hI hN h2
    have hW := hI.W
    have h8 : ∀ b, b < 120 → σ 8 b ≤ 6 := fun b hb => hI.w8 hb
    have hI0 := MI_day hI (by omega)
    have hN0 := NIc_day (v := σ 0 0 + 1) hN
    generalize hσ0 : su σ 0 0 (σ 0 0 + 1) = σ0 at hI0 hN0
    have s0 : ∀ c i, ¬ (c = 0 ∧ i = 0) → σ0 c i = σ c i := fun c i hc => by rw [← hσ0]; exact su_ne hc
    have s00' : σ0 0 0 = σ 0 0 + 1 := by rw [← hσ0]; exact su_eq
    have ag : ∀ a, agr σ σ0 a := fun a => ⟨fun c i hc => s0 c i (by omega), fun c hc => s0 c _ (by omega)⟩
    obtain ⟨hI1, hN1⟩ := MI_fo (12 * σ 3 0) 0 σ0 (by omega) hI0 hN0
    have h80 : ∀ b, b < 120 → σ0 8 b ≤ 6 := fun b hb => hI0.w8 hb
    have hr1 : ∀ {c i : Nat}, ¬ (c = 12 ∨ c = 13 ∨ c = 14) → fo dry1 (12 * σ 3 0) 0 σ0 c i = σ0 c i := fun hc => fo_dry1_r _ _ _ hc
    have ho1 : ∀ {c i : Nat}, (∀ a, a < 12 * σ 3 0 → ¬ offD σ a → i ≠ up σ a) → fo dry1 (12 * σ 3 0) 0 σ0 c i = σ0 c i := fun h => fo_dry1_o _ _ _ (by omega) (fun a _ q2 q3 => by rw [agr_up (ag a)]; rw [agr_off (ag a)] at q3; exact h a (by omega) q3) h80
    have ha1 : ∀ {a c : Nat}, a < 12 * σ 3 0 → ¬ offD σ a → (c = 12 ∨ c = 13 ∨ c = 14) → fo dry1 (12 * σ 3 0) 0 σ0 c (up σ a) = dry1 σ a c (up σ a) := fun {a c} h1 h2 hc => by
      have := fo_dry1_a (12 * σ 3 0) 0 σ0 (a := a) (c := c) (by omega) (Nat.zero_le _) (by omega) (by rw [agr_off (ag a)]; exact h2) h80 hc
      rw [agr_up (ag a)] at this
      rw [this, agr_dry1 (ag a) hc]
    have hd1 : drn (12 * σ 3 0) 0 σ0 = sm (dryv σ) (12 * σ 3 0) 0 := by
      rw [drn_sm _ _ _ (by omega) h80]
      exact sm_cg _ _ (fun i _ _ => agr_dryv (ag i))
    have ep : pasd (n + 1) σ = pasd n (fo dry1 (12 * σ 3 0) 0 σ0) := by rw [← hσ0]; rfl
    have ev : pasv (n + 1) σ = drn (12 * σ 3 0) 0 σ0 + pasv n (fo dry1 (12 * σ 3 0) 0 σ0) := by rw [← hσ0]; rfl
    generalize hσ1 : fo dry1 (12 * σ 3 0) 0 σ0 = σ1 at hI1 hN1 hr1 ho1 ha1 ep ev
    have e3 : σ1 3 0 = σ 3 0 := by rw [hr1 (by decide), s0 _ _ (by decide)]
    have e00 : σ1 0 0 = σ 0 0 + 1 := by rw [hr1 (by decide), s00']
    obtain ⟨q1, q2, q3, q4, q5, q6⟩ := ih σ1 hI1 hN1 (by omega)
    rw [ep]
    rw [e3] at q3 q4 q5 q6
    have eu : ∀ a, up σ1 a = up σ a := fun a => by unfold up; rw [hr1 (by decide), s0 _ _ (by omega)]
    have en : ∀ u, ndu σ1 u = ndu σ u := fun u => by unfold ndu; rw [hr1 (by decide), hr1 (by decide), s0 _ _ (by omega), s0 _ _ (by omega)]
    have em : ∀ a, mor σ1 a = mor σ a := fun a => by unfold mor; rw [hr1 (by decide), hr1 (by decide), hr1 (by decide), s0 _ _ (by omega), s0 _ _ (by omega), s0 _ _ (by omega)]
    have e8 : ∀ a, σ1 8 a = σ 8 a := fun a => by rw [hr1 (by decide), s0 _ _ (by omega)]
    have off1 : ∀ a, a < 12 * σ 3 0 → offD σ a → offD σ1 a := by
      intro a ha ho
      by_cases h0 : σ 8 a = 0
      · exact Or.inl (by rw [e8]; exact h0)
      · refine Or.inr ?_
        rw [eu, ho1 (fun b hb hob => up_ne h8 (by omega) (by omega) h0 (fun q => hob (Or.inl q)) (fun e => hob (e ▸ ho))), s0 _ _ (by omega)]
        exact ho.elim (fun q => absurd q h0) id
    have bd : ∀ a, a < 12 * σ 3 0 → ¬ offD σ a → (offD σ1 a ↔ ndu σ (up σ a) ≤ σ 12 (up σ a) + mor σ a) := by
      intro a ha ho
      have h0 : ¬ σ 8 a = 0 := fun q => ho (Or.inl q)
      unfold offD
      rw [eu, e8, ha1 ha ho (by decide), dry1_13 ho]
      by_cases h : ndu σ (up σ a) ≤ σ 12 (up σ a) + mor σ a
      · rw [xi_t h]; exact ⟨fun _ => h, fun _ => Or.inr (by decide)⟩
      · rw [xi_f h]; exact ⟨fun q => q.elim (fun q => absurd q h0) (fun q => absurd rfl q), fun q => absurd q h⟩
    have hmul : ∀ a, (n + 1) * mor σ a = n * mor σ a + mor σ a := fun a => Nat.succ_mul n _
    have b1 : ∀ a, a < 12 * σ 3 0 → ¬ offD σ1 a → (bec σ1 n a ↔ bec σ (n + 1) a) := by
      intro a ha ho1'
      have ho : ¬ offD σ a := fun q => ho1' (off1 a ha q)
      unfold bec
      rw [eu, en, em, ha1 ha ho (by decide), dry1_12 ho, hmul]
      constructor
      · rintro ⟨-, h⟩; exact ⟨ho, by omega⟩
      · rintro ⟨-, h⟩; exact ⟨ho1', by omega⟩
    refine ⟨fun c i hc hc0 => ?_, ?_, fun c i hc0 h => ?_, fun a ha hb => ?_, fun a ha ho hb => ?_, ?_⟩
    · rw [q1 c i hc hc0, hr1 hc, s0 c i hc0]
    · rw [q2, e00]; omega
    · rw [q3 c i hc0 (fun a ha ho => by rw [eu]; exact h a ha (fun q => ho (off1 a ha q))), ho1 h, s0 c i hc0]
    · obtain ⟨ho, hb2⟩ := id hb
      by_cases hd : ndu σ (up σ a) ≤ σ 12 (up σ a) + mor σ a
      · have hoff := (bd a ha ho).mpr hd
        have h0 : ¬ σ 8 a = 0 := fun q => ho (Or.inl q)
        have same : ∀ c, ¬ (c = 0 ∧ up σ a = 0) → pasd n σ1 c (up σ a) = σ1 c (up σ a) := fun c hc => q3 c _ hc (fun b hb' hob => by
          rw [eu]
          exact up_ne h8 (by omega) (by omega) h0 (fun q => hob (Or.inl (by rw [e8]; exact q))) (fun e => hob (e ▸ hoff)))
        rw [same 13 (by omega), same 12 (by omega), same 14 (by omega), ha1 ha ho (by decide), ha1 ha ho (by decide), ha1 ha ho (by decide), dry1_12 ho, dry1_13 ho, dry1_14 ho, xi_t hd]
        refine ⟨rfl, hd, ?_⟩
        congr 1
        exact propext ⟨fun q => q.elim Or.inl (fun q => Or.inr q.2), fun q => q.elim Or.inl (fun q => Or.inr ⟨hd, q⟩)⟩
      · have hno : ¬ offD σ1 a := fun q => hd ((bd a ha ho).mp q)
        obtain ⟨r1, r2, r3⟩ := q4 a ha ((b1 a ha hno).mpr hb)
        rw [eu] at r1 r2 r3
        rw [en] at r2
        refine ⟨r1, r2, ?_⟩
        rw [r3, ha1 ha ho (by decide), dry1_14 ho, hr1 (by decide), hr1 (by decide), s0 _ _ (by omega), s0 _ _ (by omega)]
        congr 1
        by_cases h14 : σ 14 (up σ a) = 0
        · rw [xi_f (fun q => q.elim (fun q => q h14) (fun q => hd q.1))]
          exact propext ⟨fun q => q.elim (fun q => absurd rfl q) Or.inr, fun q => q.elim (fun q => absurd h14 q) Or.inr⟩
        · rw [xi_t (Or.inl h14)]
          exact propext ⟨fun _ => Or.inl h14, fun _ => Or.inl (by decide)⟩
    · have hd : ¬ ndu σ (up σ a) ≤ σ 12 (up σ a) + mor σ a := fun q => hb ⟨ho, by rw [hmul]; omega⟩
      have hno : ¬ offD σ1 a := fun q => hd ((bd a ha ho).mp q)
      obtain ⟨r1, r2, r3⟩ := q5 a ha hno (fun q => hb ((b1 a ha hno).mp q))
      rw [eu] at r1 r2 r3
      refine ⟨r1, ?_, ?_⟩
      · rw [r2, em, ha1 ha ho (by decide), dry1_12 ho, hmul]; omega
      · rw [r3, ha1 ha ho (by decide), dry1_14 ho]
        have h8a := h8 a (by omega)
        have hu : up σ a < 720 := up_lt (fun q => ho (Or.inl q)) h8a (by omega)
        have hc := hI.c hu
        by_cases h14 : σ 14 (up σ a) = 0
        · rw [xi_f (fun q => q.elim (fun q => q h14) (fun q => hd q.1)), h14]
        · rw [xi_t (Or.inl h14)]; omega
    · rw [ev, hd1, q6, ← sm_add]
      refine sm_cg _ _ (fun a _ ha => ?_)
      have ha : a < 12 * σ 3 0 := by omega
      by_cases ho : offD σ a
      · have n1 : ¬ bec σ1 n a := fun q => q.1 (off1 a ha ho)
        have n2 : ¬ bec σ (n + 1) a := fun q => q.1 ho
        rw [xi_f n1, xi_f n2]
        unfold dryv
        rw [xi_t ho]
      · by_cases hd : ndu σ (up σ a) ≤ σ 12 (up σ a) + mor σ a
        · have n1 : ¬ bec σ1 n a := fun q => q.1 ((bd a ha ho).mpr hd)
          have n2 : bec σ (n + 1) a := ⟨ho, by rw [hmul]; omega⟩
          rw [xi_f n1, xi_t n2]
          unfold dryv
          rw [xi_f ho, xi_t hd]
        · have hno : ¬ offD σ1 a := fun q => hd ((bd a ha ho).mp q)
          have e1 : bec σ1 n a = bec σ (n + 1) a := propext (b1 a ha hno)
          rw [e1]
          unfold dryv
          rw [xi_f ho, xi_f hd, Nat.zero_add]
end

