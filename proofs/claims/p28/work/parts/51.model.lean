/-! the model's state: σ c i, the number in its field (or row) c at the place i; rows 22 and 23 hold -1 for 0 and n - 1 for n -/
abbrev xS : Type := Nat → Nat → Nat
def su (σ : xS) (c i v : Nat) : xS := fun c' i' => if c' = c ∧ i' = i then v else σ c' i'
theorem su_eq {σ : xS} {c i v : Nat} : su σ c i v c i = v := if_pos ⟨rfl, rfl⟩
theorem su_ne {σ : xS} {c i v c' i' : Nat} (h : ¬ (c' = c ∧ i' = i)) : su σ c i v c' i' = σ c' i' := if_neg h
abbrev mScal : List Nat := [0, 1, 2, 3, 16, 20]
abbrev mArrs : List Nat := [4, 5, 6, 7, 8, 9, 10, 11, 12, 13, 14, 15, 17, 18, 19, 21, 22, 23, 24, 25]
def mLen (c : Nat) : Nat := [0, 0, 0, 0, 10, 10, 10, 120, 120, 720, 720, 720, 720, 720, 720, 720, 0, 10, 80, 10, 0, 30, 48, 48, 48, 48].getD c 0
def mTy (c : Nat) : Nat := if c ∈ [7, 13, 14, 15, 24, 25] then 1 else 0
def cv (c n : Nat) : Int32 := if c = 22 ∨ c = 23 then (if n = 0 then -1 else nI (n - 1)) else nI n
theorem cv_n {c n : Nat} (h : ¬ (c = 22 ∨ c = 23)) : cv c n = nI n := if_neg h
/-! the heap's own equations -/
theorem xfld_up_arr {ah : xH} {q a ci kf t N : Nat} {x : (Nat → Int32) ⊕ (Nat → Int64) ⊕ (Nat → UInt32) ⊕ (Nat → UInt64) ⊕ (Nat → Option Nat)} {o : Nat × vp_A} (h : ah q = some (.inl o)) : xfld (xup ah q (.inl (t, N, x))) a ci kf = xfld ah a ci kf := by
  unfold xfld
  by_cases e : a = q
  · subst e; rw [xup_self, h]
  · rw [xup_ne _ _ e]
theorem xai_cell {ah : xH} {a t : Nat} {A : Nat × (Nat → Int32)} (h : ah a = some (.inl (t, A.1, .inl A.2))) : xai ah a t = some A := by
  unfold xai; rw [h]; simp
theorem xai_up_ne {ah : xH} {q a t : Nat} {o : xO} (h : a ≠ q) : xai (xup ah q o) a t = xai ah a t := by
  unfold xai; rw [xup_ne _ _ h]
theorem xai_up {ah : xH} {q t N : Nat} {f : Nat → Int32} : xai (xup ah q (.inl (t, N, .inl f))) q t = some (N, f) := by
  unfold xai; rw [xup_self]; simp
theorem xput_eq {ah : xH} {a ci kf : Nat} {v w : Value} (h : xfld ah a ci kf = some w) : ∃ fs, ah a = some (.inr (ci, fs)) ∧ fs[kf]? = some w ∧ xput ah a kf v = xup ah a (.inr (ci, fs.set kf v)) := by
  obtain ⟨fs, h1, h2⟩ := xfld_some h
  exact ⟨fs, h1, h2, by unfold xput; rw [h1]⟩
theorem xfld_put {ah : xH} {a ci kf b cj j : Nat} {v w : Value} (h : xfld ah a ci kf = some w) : xfld (xput ah a kf v) b cj j = if b = a ∧ cj = ci ∧ j = kf then some v else xfld ah b cj j := by
  obtain ⟨fs, h1, h2, h3⟩ := xput_eq (v := v) h
  have hkf : kf < fs.length := (List.getElem?_eq_some_iff.mp h2).1
  rw [h3]
  unfold xfld
  by_cases e : b = a
  · subst e
    rw [xup_self, h1]
    dsimp only
    by_cases e2 : ci = cj
    · subst e2
      rw [if_pos rfl, if_pos rfl]
      by_cases e3 : j = kf
      · subst e3; rw [if_pos ⟨rfl, rfl, rfl⟩, List.getElem?_set_self hkf]
      · rw [if_neg (fun h => e3 h.2.2), List.getElem?_set_ne (fun h => e3 h.symm)]
    · rw [if_neg e2, if_neg e2, if_neg (fun h => e2 h.2.1.symm)]
  · rw [xup_ne _ _ e, if_neg (fun h => e h.1)]
theorem xai_put {ah : xH} {a ci kf b t : Nat} {v w : Value} (h : xfld ah a ci kf = some w) : xai (xput ah a kf v) b t = xai ah b t := by
  obtain ⟨fs, h1, h2, h3⟩ := xput_eq (v := v) h
  rw [h3]
  unfold xai
  by_cases e : b = a
  · subst e; rw [xup_self, h1]
  · rw [xup_ne _ _ e]
section
variable {ad : Nat → Nat} {m : Nat} {ah0 ah : xH} {σ : xS} {th : Nat}
theorem mSA : ∀ c ∈ mScal, c ∉ mArrs := by decide
theorem mS26 : ∀ c ∈ mScal, c ≠ 26 := by decide
end
/-! numbers -/
theorem xlit (n : Nat) : (OfNat.ofNat n : Int32) = nI n := rfl
theorem xin_nI {i N : Nat} (h : i < N) (hN : N < 2 ^ 31) : vp_in (nI i) N = True := eq_true (vp_in_nI h hN)
theorem xle {a b : Nat} (ha : a < 2 ^ 31) (hb : b < 2 ^ 31) : (nI a ≤ nI b) = (a ≤ b) := propext (nI_leI ha hb)
theorem xlt {a b : Nat} (ha : a < 2 ^ 31) (hb : b < 2 ^ 31) : (nI a < nI b) = (a < b) := propext (nI_ltI ha hb)
theorem xeq {a b : Nat} (ha : a < 2 ^ 31) (hb : b < 2 ^ 31) : (nI a = nI b) = (a = b) := propext (nI_eq ha hb)
theorem xint (x : Int32) (n : Nat) (hn : n < 2 ^ 31) : (∃ j, j < n ∧ x = nI j) ∨ ¬ (0 ≤ x ∧ x < nI n) := by
  by_cases h : 0 ≤ x ∧ x < nI n
  · left
    obtain ⟨j, hj, e⟩ := nI_of (x := x) (by have := h.1; exact fun hh => absurd hh (Int32.not_lt.mpr this))
    subst e
    exact ⟨j, (nI_ltI hj hn).mp h.2, rfl⟩
  · exact Or.inr h

