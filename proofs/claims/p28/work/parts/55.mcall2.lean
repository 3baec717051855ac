/-! the model's questions -/
section
variable {κ : Nat → Nat} {R : xR → xH → Prop} {ad : Nat → Nat} {m : Nat} {ah0 ah : xH} {σ : xS} {th : Nat}
def ofC (k : Nat) : Nat := if k = 0 then 9 else if k = 1 then 10 else if k = 2 then 11 else if k = 3 then 13 else if k = 4 then 14 else 15
def cat (a b c : Int32) : Nat := 6 * (12 * a.toNatClampNeg + b.toNatClampNeg) + c.toNatClampNeg
def xisC (σ : xS) (a b c : Int32) : Prop := (xin a (σ 3 0) ∧ xin b (σ 4 a.toNatClampNeg)) ∧ xin c (σ 8 (12 * a.toNatClampNeg + b.toNatClampNeg))
noncomputable def t_ofCoat (σ : xS) (a b c d : Int32) : Nat := xi (xisC σ a b c) (xi (xin d 6) 0 2) 1
noncomputable def v_ofCoat (σ : xS) (a b c d : Int32) : Int32 := xi (t_ofCoat σ a b c d = 0) (nI (σ (ofC d.toNatClampNeg) (cat a b c))) 0
theorem xisC_of (hI : MI σ) {a b c : Int32} (h : xisC σ a b c) : ∃ i j k, a = nI i ∧ b = nI j ∧ c = nI k ∧ i < σ 3 0 ∧ i < 10 ∧ j < σ 4 i ∧ j < 12 ∧ k < σ 8 (12 * i + j) ∧ k < 6 := by
  have hW := hI.W
  obtain ⟨⟨h1, h2⟩, h3⟩ := h
  obtain ⟨i, hi, rfl⟩ := xin_of (by omega) h1
  rw [nI_cl (by omega)] at h2 h3
  have hs := hI.w4 (w := i) (by omega)
  obtain ⟨j, hj, rfl⟩ := xin_of (by omega) h2
  rw [nI_cl (by omega)] at h3
  have hm := hI.w8 (a := 12 * i + j) (by omega)
  obtain ⟨k, hk, rfl⟩ := xin_of (by omega) h3
  exact ⟨i, j, k, rfl, rfl, rfl, by omega, by omega, by omega, by omega, by omega, by omega⟩
noncomputable def t_coatsAnew (σ : xS) (a b : Int32) : Nat := xi (xin a (σ 3 0) ∧ xin b (σ 4 a.toNatClampNeg)) 0 1
noncomputable def v_coatsAnew (σ : xS) (a b : Int32) : Int32 := xi (t_coatsAnew σ a b = 0) (nI (σ 8 (12 * a.toNatClampNeg + b.toNatClampNeg))) 0
noncomputable def t_ofCell (a b : Int32) : Nat := xi (xin a 48) (xi (xin b 3) 0 2) 1
noncomputable def v_ofCell (σ : xS) (a b : Int32) : Int32 := xi (t_ofCell a b = 0) (if b = 0 then cv 22 (σ 22 a.toNatClampNeg) else if b = 1 then cv 23 (σ 23 a.toNatClampNeg) else nI (σ 24 a.toNatClampNeg)) 0
end

