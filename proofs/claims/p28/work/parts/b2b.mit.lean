/-! mitres, more of them -/
theorem mtk_5 : ∀ a, a < 5 → ∀ b, b < 100 → mok (mits (5 * 5 + a + 1) (b + 1)) = true := by
  unfold mits
  decide +kernel
theorem mtk_6 : ∀ a, a < 5 → ∀ b, b < 100 → mok (mits (5 * 6 + a + 1) (b + 1)) = true := by
  unfold mits
  decide +kernel
theorem mtk_7 : ∀ a, a < 5 → ∀ b, b < 100 → mok (mits (5 * 7 + a + 1) (b + 1)) = true := by
  unfold mits
  decide +kernel
theorem mtk_8 : ∀ a, a < 5 → ∀ b, b < 100 → mok (mits (5 * 8 + a + 1) (b + 1)) = true := by
  unfold mits
  decide +kernel
theorem mtk_9 : ∀ a, a < 5 → ∀ b, b < 100 → mok (mits (5 * 9 + a + 1) (b + 1)) = true := by
  unfold mits
  decide +kernel
