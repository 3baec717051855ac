/-! a coat is laid -/
theorem MI_lay {σ : xS} (hI : MI σ) {w s p k : Nat} (hw : w < σ 3 0) (hs : s < σ 4 w) (hp : p < 4) (hk : k ≤ 20) (h6 : ¬ σ 8 (12 * w + s) = 6) : MI (lay w p k σ s) := by
  have hW := hI.W
  have h4 := hI.w4 (w := w) (by omega)
  have b8 := hI.w8 (a := 12 * w + s) (by omega)
  have hd := hI.wt2
  have hcr : crk σ w (12 * w + s) p k ≤ 1 := by unfold crk; split <;> omega
  have hl : ∀ c i, lay w p k σ s c i = if c = 14 ∧ i = 6 * (12 * w + s) + σ 8 (12 * w + s) then crk σ w (12 * w + s) p k else if c = 15 ∧ i = 6 * (12 * w + s) + σ 8 (12 * w + s) then 0 else if c = 13 ∧ i = 6 * (12 * w + s) + σ 8 (12 * w + s) then 0 else if c = 12 ∧ i = 6 * (12 * w + s) + σ 8 (12 * w + s) then 0 else if c = 11 ∧ i = 6 * (12 * w + s) + σ 8 (12 * w + s) then σ 0 0 else if c = 10 ∧ i = 6 * (12 * w + s) + σ 8 (12 * w + s) then k else if c = 9 ∧ i = 6 * (12 * w + s) + σ 8 (12 * w + s) then p else if c = 8 ∧ i = 12 * w + s then σ 8 (12 * w + s) + 1 else σ c i := fun c i => rfl
  have ho : ∀ c, c ≠ 8 → c ≠ 9 → c ≠ 10 → c ≠ 11 → c ≠ 12 → c ≠ 13 → c ≠ 14 → c ≠ 15 → ∀ i, lay w p k σ s c i = σ c i := by
    intro c h8 h9 h10 h11 h12 h13 h14 h15 i
    rw [hl, if_neg (fun q => h14 q.1), if_neg (fun q => h15 q.1), if_neg (fun q => h13 q.1), if_neg (fun q => h12 q.1), if_neg (fun q => h11 q.1), if_neg (fun q => h10 q.1), if_neg (fun q => h9 q.1), if_neg (fun q => h8 q.1)]
  obtain ⟨i0, i1, i2, i3, i4, i5, i6, i7, i8, i9, i10, i11, i12, i13, i14, i15, i16, i17⟩ := hI
  unfold MI
  simp only [ho 0 (by decide) (by decide) (by decide) (by decide) (by decide) (by decide) (by decide) (by decide), ho 1 (by decide) (by decide) (by decide) (by decide) (by decide) (by decide) (by decide) (by decide), ho 2 (by decide) (by decide) (by decide) (by decide) (by decide) (by decide) (by decide) (by decide), ho 3 (by decide) (by decide) (by decide) (by decide) (by decide) (by decide) (by decide) (by decide), ho 4 (by decide) (by decide) (by decide) (by decide) (by decide) (by decide) (by decide) (by decide), ho 5 (by decide) (by decide) (by decide) (by decide) (by decide) (by decide) (by decide) (by decide), ho 6 (by decide) (by decide) (by decide) (by decide) (by decide) (by decide) (by decide) (by decide), ho 7 (by decide) (by decide) (by decide) (by decide) (by decide) (by decide) (by decide) (by decide), ho 16 (by decide) (by decide) (by decide) (by decide) (by decide) (by decide) (by decide) (by decide), ho 17 (by decide) (by decide) (by decide) (by decide) (by decide) (by decide) (by decide) (by decide), ho 18 (by decide) (by decide) (by decide) (by decide) (by decide) (by decide) (by decide) (by decide), ho 19 (by decide) (by decide) (by decide) (by decide) (by decide) (by decide) (by decide) (by decide), ho 20 (by decide) (by decide) (by decide) (by decide) (by decide) (by decide) (by decide) (by decide), ho 21 (by decide) (by decide) (by decide) (by decide) (by decide) (by decide) (by decide) (by decide), ho 22 (by decide) (by decide) (by decide) (by decide) (by decide) (by decide) (by decide) (by decide), ho 23 (by decide) (by decide) (by decide) (by decide) (by decide) (by decide) (by decide) (by decide), ho 24 (by decide) (by decide) (by decide) (by decide) (by decide) (by decide) (by decide) (by decide)]
  refine ⟨i0, i1, i2, i3, i4, i5, fun a ha => ⟨(i6 a ha).1, ?_⟩, fun c hc => ?_, i8, i9, i10, i11, i12, i13, i14, i15, i16, fun w' s' hw' hs' hno => ?_⟩
  · have := (i6 a ha).2
    rw [hl]
    simp only [Nat.reduceEqDiff, false_and, if_false, true_and]
    split <;> omega
  · have := i7 c hc
    simp only [hl, Nat.reduceEqDiff, false_and, if_false, true_and]
    by_cases e : c = 6 * (12 * w + s) + σ 8 (12 * w + s)
    · simp only [e, if_true]
      omega
    · simp only [e, if_false]
      exact this
  · rw [hl]
    simp only [Nat.reduceEqDiff, false_and, if_false, true_and]
    have := i17 w' s' hw' hs' hno
    rw [if_neg ?_]
    · exact this
    · intro e
      have e1 : w' = w := by omega
      have e2 : s' = s := by omega
      subst e1 e2
      exact hno ⟨hw, hs⟩
def fo (F : xS → Nat → xS) : Nat → Nat → xS → xS
  | 0, _, σ => σ
  | n + 1, i, σ => fo F n (i + 1) (F σ i)
section
variable {κ : Nat → Nat} {R : xR → xH → Prop} {ad : Nat → Nat} {m : Nat} {ah0 ah : xH} {σ : xS} {th : Nat}
theorem lay_8 {w p k s i : Nat} (hi : i ≠ s) : lay w p k σ s 8 (12 * w + i) = σ 8 (12 * w + i) := by
  unfold lay
  simp (disch := omega) only [su_ne]
theorem lay_8s {w p k s : Nat} : lay w p k σ s 8 (12 * w + s) = σ 8 (12 * w + s) + 1 := by
  unfold lay
  simp (disch := omega) only [su_ne, su_eq]
theorem lay_o {w p k s c i : Nat} (hc : c < 8 ∨ 15 < c) : lay w p k σ s c i = σ c i := by
  unfold lay
  simp (disch := omega) only [su_ne]
end

