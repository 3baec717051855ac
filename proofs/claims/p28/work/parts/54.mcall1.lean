/-! the short calls of the model: what they throw (t), answer (v), and make of the state (s) -/
theorem xcl {j : Nat} (h : j < 2 ^ 31) : (nI j).toNatClampNeg = j := nI_clamp h
section
variable {κ : Nat → Nat} {R : xR → xH → Prop} {ad : Nat → Nat} {m : Nat} {ah0 ah : xH} {σ : xS} {th : Nat}
theorem MI.W (h : MI σ) : σ 3 0 ≤ 10 := h.2.2.2.1
theorem MI.w4 (h : MI σ) {w : Nat} (hw : w < 10) : σ 4 w ≤ 12 := (h.2.2.2.2.1 w hw).1
theorem MI.w4' (h : MI σ) {w : Nat} (hw : w < σ 3 0) : 1 ≤ σ 4 w := h.2.2.2.2.2.1 w hw
theorem MI.w5 (h : MI σ) {w : Nat} (hw : w < 10) : σ 5 w ≤ 2 := (h.2.2.2.2.1 w hw).2.1
theorem MI.w6 (h : MI σ) {w : Nat} (hw : w < 10) : σ 6 w ≤ 30 := (h.2.2.2.2.1 w hw).2.2
theorem MI.w7 (h : MI σ) {a : Nat} (ha : a < 120) : σ 7 a ≤ 1 := (h.2.2.2.2.2.2.1 a ha).1
theorem MI.w8 (h : MI σ) {a : Nat} (ha : a < 120) : σ 8 a ≤ 6 := (h.2.2.2.2.2.2.1 a ha).2
theorem MI.c (h : MI σ) {c : Nat} (hc : c < 720) : σ 9 c ≤ 3 ∧ σ 10 c ≤ 20 ∧ σ 11 c ≤ 2000 ∧ σ 12 c ≤ 200 ∧ σ 13 c ≤ 1 ∧ σ 14 c ≤ 1 ∧ σ 15 c ≤ 1 := h.2.2.2.2.2.2.2.1 c hc
theorem MI.P (h : MI σ) : σ 16 0 ≤ 10 := h.2.2.2.2.2.2.2.2.1
theorem MI.w17 (h : MI σ) {p : Nat} (hp : p < 10) : σ 17 p ≤ 8 := h.2.2.2.2.2.2.2.2.2.1 p hp
theorem MI.w17' (h : MI σ) {p : Nat} (hp : p < σ 16 0) : 1 ≤ σ 17 p := h.2.2.2.2.2.2.2.2.2.2.1 p hp
theorem MI.w18 (h : MI σ) {d : Nat} (hd : d < 80) : σ 18 d ≤ 100 := h.2.2.2.2.2.2.2.2.2.2.2.1 d hd
theorem MI.w18' (h : MI σ) {p i : Nat} (hp : p < σ 16 0) (hi : i < σ 17 p) : 1 ≤ σ 18 (8 * p + i) := h.2.2.2.2.2.2.2.2.2.2.2.2.1 p i hp hi
theorem MI.w19 (h : MI σ) {g : Nat} (hg : g < 10) : σ 19 g ≤ 3 := h.2.2.2.2.2.2.2.2.2.2.2.2.2.1 g hg
theorem MI.Q (h : MI σ) : σ 20 0 ≤ 30 := h.2.2.2.2.2.2.2.2.2.2.2.2.2.2.1
theorem MI.w21 (h : MI σ) {q : Nat} (hq : q < 30) : σ 21 q ≤ 2000 := h.2.2.2.2.2.2.2.2.2.2.2.2.2.2.2.1 q hq
theorem MI.cell (h : MI σ) {c : Nat} (hc : c < 48) : σ 22 c ≤ σ 20 0 ∧ σ 23 c ≤ 10 ∧ σ 24 c ≤ 1 := h.2.2.2.2.2.2.2.2.2.2.2.2.2.2.2.2.1 c hc
theorem MI.off (h : MI σ) {w s : Nat} (hw : w < 10) (hs : s < 12) (ho : ¬ (w < σ 3 0 ∧ s < σ 4 w)) : σ 8 (12 * w + s) = 0 := h.2.2.2.2.2.2.2.2.2.2.2.2.2.2.2.2.2 w s hw hs ho
theorem MI.wt2 (h : MI σ) : σ 0 0 ≤ 2000 ∧ σ 1 0 ≤ 50 ∧ σ 2 0 ≤ 20 := ⟨h.1, h.2.1, h.2.2.1⟩
noncomputable def t_wall (σ : xS) (a b : Int32) : Nat := xi (xrg a 1 12 ∧ xin b 3) (xi (σ 3 0 = 10) 2 0) 1
noncomputable def s_wall (σ : xS) (a b : Int32) : xS := xi (t_wall σ a b = 0) (su (su (su σ 4 (σ 3 0) a.toNatClampNeg) 5 (σ 3 0) b.toNatClampNeg) 3 0 (σ 3 0 + 1)) σ
noncomputable def v_wall (σ : xS) (a b : Int32) : Int32 := xi (t_wall σ a b = 0) (nI (σ 3 0)) 0
noncomputable def t_weather (a b : Int32) : Nat := xi (xin a 51 ∧ xin b 21) 0 1
noncomputable def s_weather (σ : xS) (a b : Int32) : xS := xi (t_weather a b = 0) (su (su σ 1 0 a.toNatClampNeg) 2 0 b.toNatClampNeg) σ
noncomputable def t_damp (σ : xS) (a b : Int32) : Nat := xi (xin a (σ 3 0)) (xi (xin b 31) 0 2) 1
noncomputable def s_damp (σ : xS) (a b : Int32) : xS := xi (t_damp σ a b = 0) (su σ 6 a.toNatClampNeg b.toNatClampNeg) σ
noncomputable def v_damp (σ : xS) (a b : Int32) : Int32 := xi (t_damp σ a b = 0) (nI (σ 6 a.toNatClampNeg)) 0
noncomputable def t_joint (σ : xS) (a b : Int32) : Nat := xi ((xin a (σ 3 0) ∧ xin b (σ 4 a.toNatClampNeg)) ∧ b.toNatClampNeg + 1 < σ 4 a.toNatClampNeg) 0 1
noncomputable def s_joint (σ : xS) (a b : Int32) : xS := xi (t_joint σ a b = 0) (su σ 7 (12 * a.toNatClampNeg + b.toNatClampNeg) 1) σ
noncomputable def v_joint (σ : xS) (a b : Int32) : Int32 := xi (t_joint σ a b = 0) (nI (σ 7 (12 * a.toNatClampNeg + b.toNatClampNeg))) 0
noncomputable def t_strike (σ : xS) (a b : Int32) : Nat := xi (xin a (σ 3 0) ∧ xin b (σ 4 a.toNatClampNeg)) (xi (σ 8 (12 * a.toNatClampNeg + b.toNatClampNeg) = 0) 2 0) 1
noncomputable def s_strike (σ : xS) (a b : Int32) : xS := xi (t_strike σ a b = 0) (su σ 8 (12 * a.toNatClampNeg + b.toNatClampNeg) (σ 8 (12 * a.toNatClampNeg + b.toNatClampNeg) - 1)) σ
noncomputable def v_strike (σ : xS) (a b : Int32) : Int32 := xi (t_strike σ a b = 0) (nI (σ 8 (12 * a.toNatClampNeg + b.toNatClampNeg) - 1)) 0
noncomputable def t_profile (σ : xS) (a : Int32) : Nat := xi (xrg a 1 100) (xi (σ 16 0 = 10) 2 0) 1
noncomputable def s_profile (σ : xS) (a : Int32) : xS := xi (t_profile σ a = 0) (su (su (su σ 18 (8 * σ 16 0) a.toNatClampNeg) 17 (σ 16 0) 1) 16 0 (σ 16 0 + 1)) σ
noncomputable def v_profile (σ : xS) (a : Int32) : Int32 := xi (t_profile σ a = 0) (nI (σ 16 0)) 0
noncomputable def t_depth (σ : xS) (a b : Int32) : Nat := xi (xin a (σ 16 0)) (xi (xrg b 1 100) (xi (σ 17 a.toNatClampNeg = 8) 3 0) 2) 1
noncomputable def s_depth (σ : xS) (a b : Int32) : xS := xi (t_depth σ a b = 0) (su (su σ 18 (8 * a.toNatClampNeg + σ 17 a.toNatClampNeg) b.toNatClampNeg) 17 a.toNatClampNeg (σ 17 a.toNatClampNeg + 1)) σ
noncomputable def v_depth (σ : xS) (a b : Int32) : Int32 := xi (t_depth σ a b = 0) (nI (σ 17 a.toNatClampNeg + 1)) 0
noncomputable def t_window (a b : Int32) : Nat := xi (xin a 10) (xi (xin b 4) 0 2) 1
noncomputable def s_window (σ : xS) (a b : Int32) : xS := xi (t_window a b = 0) (su σ 19 a.toNatClampNeg b.toNatClampNeg) σ
noncomputable def v_window (σ : xS) (a b : Int32) : Int32 := xi (t_window a b = 0) (nI (σ 19 a.toNatClampNeg)) 0
end

