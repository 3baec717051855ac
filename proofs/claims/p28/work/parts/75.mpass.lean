/-! pass: a day for a strip -/
def mor (σ : xS) (a : Nat) : Nat := if σ 6 (a / 12) + 1 ≤ σ 1 0 / 2 + σ 2 0 then σ 1 0 / 2 + σ 2 0 - σ 6 (a / 12) else 1
def ndu (σ : xS) (u : Nat) : Nat := need (σ 9 u) * σ 10 u
def offD (σ : xS) (a : Nat) : Prop := σ 8 a = 0 ∨ ¬ σ 13 (up σ a) = 0
def crD (σ : xS) (u : Nat) : Prop := ¬ σ 14 u = 0 ∨ (σ 9 u = 3 ∧ 30 ≤ σ 1 0)
noncomputable def dry1 (σ : xS) (a : Nat) : xS := xi (offD σ a) σ
  (xi (ndu σ (up σ a) ≤ σ 12 (up σ a) + mor σ a)
    (su (su (su σ 12 (up σ a) (σ 12 (up σ a) + mor σ a)) 13 (up σ a) 1) 14 (up σ a) (xi (crD σ (up σ a)) 1 0))
    (su (su (su σ 12 (up σ a) (σ 12 (up σ a) + mor σ a)) 13 (up σ a) 0) 14 (up σ a) (xi (¬ σ 14 (up σ a) = 0) 1 0)))
noncomputable def dryv (σ : xS) (a : Nat) : Nat := xi (offD σ a) 0 (xi (ndu σ (up σ a) ≤ σ 12 (up σ a) + mor σ a) 1 0)
def NIc (σ : xS) : Prop := ∀ a k, a < 120 → k < σ 8 a → 1 ≤ σ 10 (6 * a + k) ∧ (σ 13 (6 * a + k) = 1 ↔ ndu σ (6 * a + k) ≤ σ 12 (6 * a + k))
theorem need_le (p : Nat) : need p ≤ 4 := by
  unfold need
  repeat' split
  all_goals decide
theorem ndu_le {σ : xS} (hI : MI σ) {u : Nat} (hu : u < 720) : ndu σ u ≤ 80 := by
  have h1 := need_le (σ 9 u)
  have h2 := (hI.c hu).2.1
  exact Nat.le_trans (Nat.mul_le_mul h1 h2) (show 4 * 20 ≤ 80 by decide)
theorem mor_le {σ : xS} (hI : MI σ) (a : Nat) : 1 ≤ mor σ a ∧ mor σ a ≤ 45 := by
  have := hI.wt2
  unfold mor
  split <;> omega
theorem NIc.p {σ : xS} (h : NIc σ) (hI : MI σ) {a : Nat} (ha : a < 120) (h8 : ¬ σ 8 a = 0) (h13 : σ 13 (up σ a) = 0) : σ 12 (up σ a) < 80 := by
  have h6 := hI.w8 ha
  have e : up σ a = 6 * a + (σ 8 a - 1) := by unfold up; omega
  have hu := up_lt h8 h6 ha
  have q := (h a (σ 8 a - 1) ha (by omega)).2
  rw [← e] at q
  have hn := ndu_le hI hu
  have : ¬ ndu σ (up σ a) ≤ σ 12 (up σ a) := fun q' => by have := q.mpr q'; omega
  omega
theorem i120 : ((12 : Int32) = 0) = False := by decide
section
variable {κ : Nat → Nat} {R : xR → xH → Prop} {ad : Nat → Nat} {m : Nat} {ah0 ah : xH} {σ : xS} {th : Nat}
end

