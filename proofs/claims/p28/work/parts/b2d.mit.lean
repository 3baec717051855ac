/-! mitres, more of them -/
theorem mtk_15 : ∀ a, a < 5 → ∀ b, b < 100 → mok (mits (5 * 15 + a + 1) (b + 1)) = true := by
  unfold mits
  decide +kernel
theorem mtk_16 : ∀ a, a < 5 → ∀ b, b < 100 → mok (mits (5 * 16 + a + 1) (b + 1)) = true := by
  unfold mits
  decide +kernel
theorem mtk_17 : ∀ a, a < 5 → ∀ b, b < 100 → mok (mits (5 * 17 + a + 1) (b + 1)) = true := by
  unfold mits
  decide +kernel
theorem mtk_18 : ∀ a, a < 5 → ∀ b, b < 100 → mok (mits (5 * 18 + a + 1) (b + 1)) = true := by
  unfold mits
  decide +kernel
theorem mtk_19 : ∀ a, a < 5 → ∀ b, b < 100 → mok (mits (5 * 19 + a + 1) (b + 1)) = true := by
  unfold mits
  decide +kernel
