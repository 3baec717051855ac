/-! specs: the small methods of the model -/
noncomputable def xb (p : Prop) : Int32 := @ite _ p (Classical.propDecidable p) 1 0
theorem xb_t {p : Prop} (h : p) : xb p = 1 := if_pos h
theorem xb_f {p : Prop} (h : ¬ p) : xb p = 0 := if_neg h
theorem xb_or (p : Prop) : xb p = 1 ∨ xb p = 0 := by
  by_cases h : p
  · exact Or.inl (xb_t h)
  · exact Or.inr (xb_f h)
theorem xb_0 {p : Prop} : xb p = 0 ↔ ¬ p := by
  by_cases h : p
  · rw [xb_t h]; exact ⟨fun e => absurd e (by decide), fun n => absurd h n⟩
  · rw [xb_f h]; exact ⟨fun _ => h, fun _ => rfl⟩
theorem xbF : xb False = 0 := if_neg id
theorem xbT : xb True = 1 := if_pos trivial
theorem xnz0 : narrow .boolean (.int 0) = .int 0 := rfl
theorem xnz1 : narrow .boolean (.int 1) = .int 1 := rfl
theorem xnzb {p : Prop} : narrow .boolean (.int (xb p)) = .int (xb p) := by rcases xb_or p with h | h <;> rw [h] <;> rfl
theorem xfz0 : fits .boolean (.int 0) = true := rfl
theorem xfz1 : fits .boolean (.int 1) = true := rfl
theorem xfzb {p : Prop} : fits .boolean (.int (xb p)) = true := by rcases xb_or p with h | h <;> rw [h] <;> rfl
theorem xnzn {a : Nat} (h : a ≤ 1) : narrow .boolean (.int (nI a)) = .int (nI a) := by
  have : a = 0 ∨ a = 1 := by omega
  rcases this with rfl | rfl <;> rfl
theorem xpn0 : vp_nar .boolean 0 = 0 := rfl
theorem xpn1 : vp_nar .boolean 1 = 1 := rfl
theorem xpnb {p : Prop} : vp_nar .boolean (xb p) = xb p := by rcases xb_or p with h | h <;> rw [h] <;> rfl
theorem xpnn {a : Nat} (h : a ≤ 1) : vp_nar .boolean (nI a) = nI a := by
  have : a = 0 ∨ a = 1 := by omega
  rcases this with rfl | rfl <;> rfl
theorem xnR {b : Nat} {A : Int32 → Prop} (hb : b ≤ 1) (h : A (nI b)) : (b = 0 → A 0) ∧ (¬ b = 0 → A 1) := by
  have : b = 0 ∨ b = 1 := by omega
  rcases this with rfl | rfl
  · exact ⟨fun _ => h, fun e => absurd rfl e⟩
  · exact ⟨fun e => absurd e (by decide), fun _ => h⟩
theorem xbR {p : Prop} {A : Int32 → Prop} : ((xb p = 0 → A 0) ∧ (¬ xb p = 0 → A 1)) = A (xb p) := by
  by_cases h : p
  · rw [xb_t h]; exact propext ⟨fun g => g.2 (by decide), fun g => ⟨fun e => absurd e (by decide), fun _ => g⟩⟩
  · rw [xb_f h]; exact propext ⟨fun g => g.1 rfl, fun g => ⟨fun _ => g, fun e => absurd rfl e⟩⟩
section
variable {κ : Nat → Nat} {R : xR → xH → Prop} {ah : xH}
theorem sp_size {a : Nat} {v : Value} (h : xfld ah a 1 2 = some v) (hv : ∃ x, v = .int x) : xm κ 133 [.ref a] ah R ↔ R (.inl (some v)) ah := by
  obtain ⟨x, rfl⟩ := hv
  simp only [en133, e133_0, e133_0n, e133_1, e133_4, xKv, xK0, xKx, xKHv, xKH0, xk_none, xk_i, xk_f, xk_l, xk_r, xk_n, xc_i, xc_f, xc_l, xc_d, xc_r, xc_n, xo_some, List.map_cons, List.map_nil, List.sum_cons, List.sum_nil, h]
end

