/-! the model's constructor -/
def mF0 : List Value := [.int 0, .int 0, .int 0, .int 0, .null, .null, .null, .null, .null, .null, .null, .null, .null, .null, .null, .null, .int 0, .null, .null, .null, .int 0, .null, .null, .null, .null, .null, .int 0]
def s00 : xS := fun c _ => if c = 1 then 10 else if c = 22 ∨ c = 23 then 1 else 0
def s_init : xS := fun c i => if c = 1 ∧ i = 0 then 10 else 0
def PM (ad : Nat → Nat) (m : Nat) (cs : List Nat) (ah0 ah : xH) : Prop :=
  (∀ c, c < 27 → (xfld ah m 11 c).isSome = true) ∧ xfld ah m 11 26 = some (.int 0) ∧ (∀ c ∈ mScal, xfld ah m 11 c = some (.int (nI (if c = 1 then 10 else 0)))) ∧
  (∀ c ∈ cs, xfld ah m 11 c = some (.ref (ad c)) ∧ ah (ad c) = some (.inl (mTy c, mLen c, .inl fun _ => 0)) ∧ ah0 (ad c) = none ∧ ad c ≠ m) ∧
  (∀ c ∈ cs, ∀ c' ∈ cs, ad c = ad c' → c = c') ∧ (∀ a, a ≠ m → (∀ c ∈ cs, a ≠ ad c) → ah a = ah0 a)
theorem xfld_up_ne {ah : xH} {q a ci kf : Nat} {o : xO} (h : a ≠ q) : xfld (xup ah q o) a ci kf = xfld ah a ci kf := by
  unfold xfld; rw [xup_ne _ _ h]
section
variable {κ : Nat → Nat} {R : xR → xH → Prop} {ad : Nat → Nat} {m : Nat} {cs : List Nat} {ah0 ah : xH}
theorem PM.isS (p : PM ad m cs ah0 ah) (c : Nat) (hc : c < 27) : (xfld ah m 11 c).isSome = true := p.1 c hc
theorem PM.ne (p : PM ad m cs ah0 ah) {x : Nat} (hx : ah x = none) : m ≠ x := by
  intro e
  subst e
  have := p.2.1
  unfold xfld at this
  rw [hx] at this
  cases this
theorem PM.isS' (p : PM ad m cs ah0 ah) {x : Nat} (hx : ah x = none) (o : xO) (c : Nat) (hc : c < 27) : (xfld (xup ah x o) m 11 c).isSome = true := by
  rw [xfld_up_ne (p.ne hx)]; exact p.1 c hc
theorem PM.st (p : PM ad m cs ah0 ah) {x c t N : Nat} (hx : ah x = none) (hc : c ∈ mArrs) (hcs : c ∉ cs) (ht : t = mTy c) (hN : N = mLen c) : PM (fun i => if i = c then x else ad i) m (c :: cs) ah0 (xput (xup ah x (.inl (t, N, .inl fun _ => 0))) m c (.ref x)) := by
  subst ht; subst hN
  have hm := p.ne hx
  have h27 : c < 27 := (show ∀ c ∈ mArrs, c < 27 from by decide) c hc
  obtain ⟨w, hw⟩ := Option.isSome_iff_exists.mp (p.isS' hx (.inl (mTy c, mLen c, .inl fun _ => 0)) c h27)
  obtain ⟨p1, p2, p3, p4, p5, p6⟩ := p
  have hf : ∀ j, xfld (xput (xup ah x (.inl (mTy c, mLen c, .inl fun _ => 0))) m c (.ref x)) m 11 j = if j = c then some (.ref x) else xfld ah m 11 j := by
    intro j
    rw [xfld_put hw, xfld_up_ne hm]
    by_cases e : j = c
    · rw [if_pos ⟨rfl, rfl, e⟩, if_pos e]
    · rw [if_neg (fun q => e q.2.2), if_neg e]
  obtain ⟨fs, -, -, h3⟩ := xput_eq (v := .ref x) hw
  have ho : ∀ a, a ≠ m → a ≠ x → xput (xup ah x (.inl (mTy c, mLen c, .inl fun _ => 0))) m c (.ref x) a = ah a := by
    intro a h1 h2
    rw [h3, xup_ne _ _ h1, xup_ne _ _ h2]
  have hx' : xput (xup ah x (.inl (mTy c, mLen c, .inl fun _ => 0))) m c (.ref x) x = some (.inl (mTy c, mLen c, .inl fun _ => 0)) := by
    rw [h3, xup_ne _ _ (fun q => hm q.symm), xup_self]
  have nS : ∀ j ∈ mScal, j ≠ c := fun j hj e => mSA j hj (e ▸ hc)
  have n26 : 26 ≠ c := fun e => absurd hc (by rw [← e]; decide)
  have hne : ∀ c' ∈ cs, c' ≠ c := fun c' h e => hcs (e ▸ h)
  have hxa : ∀ c' ∈ cs, ad c' ≠ x := fun c' h e => by
    have := (p4 c' h).2.1
    rw [e, hx] at this
    cases this
  refine ⟨fun j hj => ?_, ?_, fun j hj => ?_, fun j hj => ?_, fun j hj j' hj' e => ?_, fun a h1 h2 => ?_⟩
  · rw [hf]
    by_cases e : j = c
    · rw [if_pos e]; rfl
    · rw [if_neg e]; exact p1 j hj
  · rw [hf, if_neg n26]; exact p2
  · rw [hf, if_neg (nS j hj)]; exact p3 j hj
  · by_cases e : j = c
    · subst e
      rw [hf, if_pos rfl]
      dsimp only
      rw [if_pos rfl]
      refine ⟨rfl, hx', ?_, fun q => hm q.symm⟩
      rw [← p6 x (fun q => hm q.symm) (fun c' h q => hxa c' h q.symm)]
      exact hx
    · have hj' : j ∈ cs := (List.mem_cons.mp hj).elim (fun q => absurd q e) id
      obtain ⟨q1, q2, q3, q4⟩ := p4 j hj'
      rw [hf, if_neg e]
      dsimp only
      rw [if_neg e]
      exact ⟨q1, by rw [ho _ q4 (hxa j hj')]; exact q2, q3, q4⟩
  · dsimp only at e
    by_cases e1 : j = c <;> by_cases e2 : j' = c
    · rw [e1, e2]
    · have hj2 : j' ∈ cs := (List.mem_cons.mp hj').elim (fun q => absurd q e2) id
      rw [if_pos e1, if_neg e2] at e
      exact absurd e.symm (hxa j' hj2)
    · have hj1 : j ∈ cs := (List.mem_cons.mp hj).elim (fun q => absurd q e1) id
      rw [if_neg e1, if_pos e2] at e
      exact absurd e (hxa j hj1)
    · have hj1 : j ∈ cs := (List.mem_cons.mp hj).elim (fun q => absurd q e1) id
      have hj2 : j' ∈ cs := (List.mem_cons.mp hj').elim (fun q => absurd q e2) id
      rw [if_neg e1, if_neg e2] at e
      exact p5 j hj1 j' hj2 e
  · have hax : a ≠ x := fun e => h2 c (List.mem_cons_self) (by show a = (if c = c then x else ad c); rw [if_pos rfl]; exact e)
    rw [ho a h1 hax]
    exact p6 a h1 (fun c' h e => h2 c' (List.mem_cons_of_mem _ h) (by show a = (if c' = c then x else ad c'); rw [if_neg (hne c' h)]; exact e))
end

