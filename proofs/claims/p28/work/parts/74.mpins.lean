/-! pins -/
def Rch (L : Nat → Prop) (a c : Nat) : Prop := ∀ P : Nat → Prop, P a → (∀ b c, P b → besd b c → L c → P c) → P c
theorem Rch.rfl {L : Nat → Prop} {a : Nat} : Rch L a a := fun _ h _ => h
theorem Rch.step {L : Nat → Prop} {a b c : Nat} (h : Rch L a b) (hb : besd b c) (hl : L c) : Rch L a c := fun P h0 hs => hs b c (h P h0 hs) hb hl
noncomputable def cnt (P : Nat → Prop) : Nat → Nat
  | 0 => 0
  | n + 1 => cnt P n + xi (P n) 1 0
theorem cnt_le (P : Nat → Prop) : ∀ n, cnt P n ≤ n := by
  intro n
  induction n with
  | zero => exact Nat.le_refl 0
  | succ n ih =>
    show cnt P n + xi (P n) 1 0 ≤ n + 1
    by_cases q : P n
    · rw [xi_t q]; omega
    · rw [xi_f q]; omega
theorem cnt_cg {P Q : Nat → Prop} : ∀ n, (∀ i, i < n → (P i ↔ Q i)) → cnt P n = cnt Q n := by
  intro n
  induction n with
  | zero => intro _; rfl
  | succ n ih =>
    intro h
    show cnt P n + xi (P n) 1 0 = cnt Q n + xi (Q n) 1 0
    rw [ih (fun i hi => h i (by omega)), propext (h n (by omega))]
theorem cnt_add {P Q : Nat → Prop} {c : Nat} (hc : ¬ P c) : ∀ n, c < n → (∀ i, i < n → (Q i ↔ P i ∨ i = c)) → cnt Q n = cnt P n + 1 := by
  intro n
  induction n with
  | zero => intro h; omega
  | succ n ih =>
    intro h hq
    show cnt Q n + xi (Q n) 1 0 = cnt P n + xi (P n) 1 0 + 1
    by_cases e : c = n
    · subst e
      have e1 : cnt Q c = cnt P c := cnt_cg c (fun i hi => (hq i (by omega)).trans ⟨fun q => q.elim id (fun e => by omega), Or.inl⟩)
      rw [e1, xi_f hc, xi_t ((hq c (by omega)).mpr (Or.inr rfl))]
    · have e1 := ih (by omega) (fun i hi => hq i (by omega))
      have e2 : Q n ↔ P n := (hq n (by omega)).trans ⟨fun q => q.elim id (fun e' => absurd e'.symm e), Or.inl⟩
      rw [e1, propext e2]
      omega
theorem bt_one : ∀ j : Fin 48, ((1 : Int64) <<< ((nI j.1).toInt64 &&& 63)).toBitVec = BitVec.twoPow 64 j.1 := by decide +kernel
theorem bt_1 {j c : Nat} (hj : j < 48) : bt ((1 : Int64) <<< ((nI j).toInt64 &&& 63)) c ↔ c = j := by
  unfold bt
  rw [bt_one ⟨j, hj⟩, BitVec.getLsbD_twoPow]
  have : j < 64 := by omega
  simp [this]
  exact eq_comm
theorem bt_or {x y : Int64} {c : Nat} : bt (x ||| y) c ↔ bt x c ∨ bt y c := by
  unfold bt
  rw [Int64.toBitVec_or, BitVec.getLsbD_or, Bool.or_eq_true]
def lo48 (σ : xS) (c : Nat) : Prop := c < 48 ∧ σ 25 c = 1
def fcd (σ : xS) (fd : Int64) (k : Nat) : Prop := σ 25 (k % 48) = 1 ∧ bt fd (k / 48) ∧ besd (k / 48) (k % 48)
def FI (L0 : Nat → Prop) (fi : Nat) (σ0 σ : xS) (fd : Int64) (s : Nat) : Prop :=
  (∀ c i, c ≠ 25 → σ c i = σ0 c i) ∧ (∀ c, c < 48 → σ 25 c ≤ 1) ∧ (∀ c, c < 48 → bt fd c → Rch L0 fi c) ∧
  (∀ c, c < 48 → (L0 c ↔ (σ 25 c = 1 ∨ bt fd c))) ∧ (∀ c, c < 48 → ¬ (σ 25 c = 1 ∧ bt fd c)) ∧ s = cnt (bt fd) 48 ∧ bt fd fi
noncomputable def npn : Nat → Nat → (Nat → Prop) → Nat
  | 0, _, _ => 0
  | n + 1, c, L => xi (L c) ((cnt (Rch L c) 48 + 3) / 4) 0 + npn n (c + 1) (xi (L c) (fun i => L i ∧ ¬ Rch L c i) L)
section
variable {κ : Nat → Nat} {R : xR → xH → Prop} {ad : Nat → Nat} {m : Nat} {ah0 ah : xH} {σ : xS} {th : Nat}
theorem FI_step {L0 : Nat → Prop} {fi s k : Nat} {σ0 : xS} {fd : Int64} (hk : k < 2304) (h : FI L0 fi σ0 σ fd s) (hc : fcd σ fd k) : FI L0 fi σ0 (su σ 25 (k % 48) 0) (fd ||| (1 : Int64) <<< ((nI (k % 48)).toInt64 &&& 63)) (s + 1) ∧ cnt (lo48 (su σ 25 (k % 48) 0)) 48 + 1 = cnt (lo48 σ) 48 := by
  obtain ⟨h1, h2, h3, h4, h5, h6, h7⟩ := h
  obtain ⟨c1, c2, c3⟩ := hc
  have hm : k % 48 < 48 := Nat.mod_lt _ (by decide)
  have hd : k / 48 < 48 := by omega
  have hb : ∀ c, bt (fd ||| (1 : Int64) <<< ((nI (k % 48)).toInt64 &&& 63)) c ↔ bt fd c ∨ c = k % 48 := fun c => by rw [bt_or, bt_1 hm]
  have hL : L0 (k % 48) := (h4 _ hm).mpr (Or.inl c1)
  refine ⟨⟨fun c i hc => by rw [su_ne (fun e => hc e.1)]; exact h1 c i hc, fun c hc => ?_, fun c hc hq => ?_, fun c hc => ?_, fun c hc hq => ?_, ?_, (hb fi).mpr (Or.inl h7)⟩, ?_⟩
  · by_cases e : c = k % 48
    · subst e; rw [su_eq]; omega
    · rw [su_ne (fun q => e q.2)]; exact h2 c hc
  · rcases (hb c).mp hq with q | q
    · exact h3 c hc q
    · subst q; exact Rch.step (h3 _ hd c2) c3 hL
  · rw [hb]
    by_cases e : c = k % 48
    · subst e; exact ⟨fun _ => Or.inr (Or.inr rfl), fun _ => hL⟩
    · rw [su_ne (fun q => e q.2), h4 c hc]
      exact ⟨fun q => q.elim Or.inl (fun q => Or.inr (Or.inl q)), fun q => q.elim Or.inl (fun q => q.elim Or.inr (fun q => absurd q e))⟩
  · obtain ⟨q1, q2⟩ := hq
    by_cases e : c = k % 48
    · subst e; rw [su_eq] at q1; exact absurd q1 (by decide)
    · rw [su_ne (fun q => e q.2)] at q1
      exact h5 c hc ⟨q1, ((hb c).mp q2).elim id (fun q => absurd q e)⟩
  · rw [h6]
    exact (cnt_add (fun q => h5 _ hm ⟨c1, q⟩) 48 hm (fun i _ => hb i)).symm
  · refine (cnt_add (P := lo48 (su σ 25 (k % 48) 0)) (c := k % 48) (fun q => ?_) 48 hm (fun i hi => ?_)).symm
    · have := q.2
      rw [su_eq] at this
      exact absurd this (by decide)
    · unfold lo48
      by_cases e : i = k % 48
      · subst e; exact ⟨fun _ => Or.inr rfl, fun _ => ⟨hm, c1⟩⟩
      · rw [su_ne (fun q => e q.2)]
        exact ⟨Or.inl, fun q => q.elim id (fun q => absurd q e)⟩
theorem FI_done {L0 : Nat → Prop} {fi s : Nat} {σ0 : xS} {fd : Int64} (h : FI L0 fi σ0 σ fd s) (hL : ∀ c, L0 c → c < 48) (hc : ∀ i, i < 2304 → ¬ fcd σ fd i) (hfi : fi < 48) : ∀ c, Rch L0 fi c → c < 48 ∧ bt fd c := by
  obtain ⟨h1, h2, h3, h4, h5, h6, h7⟩ := h
  intro c hr
  refine hr (fun c => c < 48 ∧ bt fd c) ⟨hfi, h7⟩ (fun b' c' ih b l => ?_)
  obtain ⟨i1, i2⟩ := ih
  have lc := hL _ l
  refine ⟨lc, ((h4 c' lc).mp l).elim (fun q => ?_) id⟩
  refine absurd ?_ (hc (48 * b' + c') (by omega))
  have e1 : (48 * b' + c') / 48 = b' := by omega
  have e2 : (48 * b' + c') % 48 = c' := by omega
  unfold fcd
  rw [e1, e2]
  exact ⟨q, i2, b⟩
noncomputable def v_pins (x : Int64) : Int32 := nI (npn 48 0 (fun c => c < 48 ∧ bt x c))
end

