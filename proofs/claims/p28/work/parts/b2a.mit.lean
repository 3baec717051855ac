/-! mitres, 4096 times, as whole numbers -/
def mok (v : UInt32) : Bool := decide (FP.fmul v 1166016512 &&& 0x7fffffff ≤ 0x7f800000) && decide (0 < FP.f2i (FP.fmul v 1166016512)) && decide (FP.f2i (FP.fmul v 1166016512) < 4096)
theorem mok_of {v : UInt32} (h : mok v = true) : vf_n32 (FP.fmul v 1166016512) ∧ 0 < FP.f2i (FP.fmul v 1166016512) ∧ FP.f2i (FP.fmul v 1166016512) < 4096 := by
  unfold mok at h
  rw [Bool.and_eq_true, Bool.and_eq_true] at h
  refine ⟨?_, of_decide_eq_true h.1.2, of_decide_eq_true h.2⟩
  unfold vf_n32
  exact of_decide_eq_true h.1.1

theorem mtk_0 : ∀ a, a < 5 → ∀ b, b < 100 → mok (mits (5 * 0 + a + 1) (b + 1)) = true := by
  unfold mits
  decide +kernel
theorem mtk_1 : ∀ a, a < 5 → ∀ b, b < 100 → mok (mits (5 * 1 + a + 1) (b + 1)) = true := by
  unfold mits
  decide +kernel
theorem mtk_2 : ∀ a, a < 5 → ∀ b, b < 100 → mok (mits (5 * 2 + a + 1) (b + 1)) = true := by
  unfold mits
  decide +kernel
theorem mtk_3 : ∀ a, a < 5 → ∀ b, b < 100 → mok (mits (5 * 3 + a + 1) (b + 1)) = true := by
  unfold mits
  decide +kernel
theorem mtk_4 : ∀ a, a < 5 → ∀ b, b < 100 → mok (mits (5 * 4 + a + 1) (b + 1)) = true := by
  unfold mits
  decide +kernel
