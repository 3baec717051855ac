/-! mitres, more of them -/
theorem mtk_10 : ∀ a, a < 5 → ∀ b, b < 100 → mok (mits (5 * 10 + a + 1) (b + 1)) = true := by
  unfold mits
  decide +kernel
theorem mtk_11 : ∀ a, a < 5 → ∀ b, b < 100 → mok (mits (5 * 11 + a + 1) (b + 1)) = true := by
  unfold mits
  decide +kernel
theorem mtk_12 : ∀ a, a < 5 → ∀ b, b < 100 → mok (mits (5 * 12 + a + 1) (b + 1)) = true := by
  unfold mits
  decide +kernel
theorem mtk_13 : ∀ a, a < 5 → ∀ b, b < 100 → mok (mits (5 * 13 + a + 1) (b + 1)) = true := by
  unfold mits
  decide +kernel
theorem mtk_14 : ∀ a, a < 5 → ∀ b, b < 100 → mok (mits (5 * 14 + a + 1) (b + 1)) = true := by
  unfold mits
  decide +kernel
