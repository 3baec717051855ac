/-! what the state keeps beside MI -/
def NJ (σ : xS) : Prop := NIc σ ∧ (∀ q, q < σ 20 0 → σ 21 q ≤ σ 0 0) ∧ ZI σ
theorem NJ_cg {σ σ' : xS} (h : NJ σ) (hc : ∀ c i, c = 0 ∨ c = 3 ∨ c = 4 ∨ c = 6 ∨ c = 7 ∨ c = 8 ∨ c = 9 ∨ c = 10 ∨ c = 12 ∨ c = 13 ∨ c = 20 ∨ c = 21 → σ' c i = σ c i) : NJ σ' := by
  obtain ⟨h1, h2, h3, h4⟩ := h
  refine ⟨fun a k ha hk => ?_, fun q hq => ?_, fun w hw hw2 => ?_, fun w s hw hs hn => ?_⟩
  · rw [hc 8 _ (by omega)] at hk
    have := h1 a k ha hk
    unfold ndu at this ⊢
    rw [hc 9 _ (by omega), hc 10 _ (by omega), hc 12 _ (by omega), hc 13 _ (by omega)]
    exact this
  · rw [hc 20 _ (by omega)] at hq
    rw [hc 21 _ (by omega), hc 0 _ (by omega)]
    exact h2 q hq
  · rw [hc 3 _ (by omega)] at hw
    rw [hc 6 _ (by omega)]
    exact h3 w hw hw2
  · rw [hc 3 _ (by omega), hc 4 _ (by omega)] at hn
    rw [hc 7 _ (by omega)]
    exact h4 w s hw hs hn
theorem NJ_weather {σ : xS} (h : NJ σ) {a b : Int32} : NJ (s_weather σ a b) := by
  refine NJ_cg h (fun c i hc => ?_)
  unfold s_weather
  by_cases ht : t_weather a b = 0
  · rw [xi_t ht, su_nr (by omega), su_nr (by omega)]
  · rw [xi_f ht]
theorem NJ_window {σ : xS} (h : NJ σ) {a b : Int32} : NJ (s_window σ a b) := by
  refine NJ_cg h (fun c i hc => ?_)
  unfold s_window
  by_cases ht : t_window a b = 0
  · rw [xi_t ht, su_nr (by omega)]
  · rw [xi_f ht]
theorem NJ_profile {σ : xS} (h : NJ σ) {a : Int32} : NJ (s_profile σ a) := by
  refine NJ_cg h (fun c i hc => ?_)
  unfold s_profile
  by_cases ht : t_profile σ a = 0
  · rw [xi_t ht, su_nr (by omega), su_nr (by omega), su_nr (by omega)]
  · rw [xi_f ht]
theorem NJ_depth {σ : xS} (h : NJ σ) {a b : Int32} : NJ (s_depth σ a b) := by
  refine NJ_cg h (fun c i hc => ?_)
  unfold s_depth
  by_cases ht : t_depth σ a b = 0
  · rw [xi_t ht, su_nr (by omega), su_nr (by omega)]
  · rw [xi_f ht]
theorem NJ_scratch {σ : xS} (h : NJ σ) {a b d : Int32} : NJ (s_scratch σ a b d) := by
  refine NJ_cg h (fun c i hc => ?_)
  unfold s_scratch
  by_cases ht : t_scratch σ a b d = 0
  · rw [xi_t ht, fo_scr_o (by omega)]
  · rw [xi_f ht]
theorem NJ_paint {σ : xS} (h : NJ σ) {p g : Int32} {x : Int64} {sc : Prop} : NJ (s_paint σ p g x sc) := by
  refine NJ_cg h (fun c i hc => ?_)
  unfold s_paint
  by_cases ht : t_paint σ p g sc = 0
  · rw [xi_t ht, fo_pt1_o (by omega)]
  · rw [xi_f ht]
theorem xi_0 {p : Prop} {a b : Nat} (h : xi p a b = 0) (hb : b ≠ 0) : p ∧ a = 0 := by
  by_cases q : p
  · rw [xi_t q] at h; exact ⟨q, h⟩
  · rw [xi_f q] at h; exact absurd h hb
theorem NJ_damp {σ : xS} (h : NJ σ) (hI : MI σ) {a b : Int32} : NJ (s_damp σ a b) := by
  unfold s_damp
  by_cases ht : t_damp σ a b = 0
  · rw [xi_t ht]
    have hW := hI.W
    obtain ⟨j, hj, rfl⟩ := xin_of (by omega) (xi_0 ht (by decide)).1
    obtain ⟨h1, h2, h3, h4⟩ := h
    rw [nI_cl (by omega)]
    refine ⟨fun a k ha hk => ?_, fun q hq => ?_, fun w hw hw2 => ?_, fun w s hw hs hn => ?_⟩
    · rw [su_nr (by decide)] at hk
      have := h1 a k ha hk
      unfold ndu at this ⊢
      simp (disch := omega) only [su_nr]
      exact this
    · rw [su_nr (by decide)] at hq ⊢
      rw [su_nr (by decide)]
      exact h2 q hq
    · rw [su_nr (by decide)] at hw
      rw [su_ne (by omega)]
      exact h3 w hw hw2
    · rw [su_nr (by decide), su_nr (by decide)] at hn
      rw [su_nr (by decide)]
      exact h4 w s hw hs hn
  · rw [xi_f ht]
    exact h
theorem NJ_joint {σ : xS} (h : NJ σ) (hI : MI σ) {a b : Int32} : NJ (s_joint σ a b) := by
  unfold s_joint
  by_cases ht : t_joint σ a b = 0
  · rw [xi_t ht]
    have hW := hI.W
    obtain ⟨⟨q1, q2⟩, q3⟩ := (xi_0 ht (by decide)).1
    obtain ⟨j, hj, rfl⟩ := xin_of (by omega) q1
    rw [nI_cl (by omega)] at q2 q3 ⊢
    have h4w := hI.w4 (w := j) (by omega)
    obtain ⟨i, hi, rfl⟩ := xin_of (by omega) q2
    rw [nI_cl (by omega)] at q3 ⊢
    obtain ⟨h1, h2, h3, h4⟩ := h
    refine ⟨fun a k ha hk => ?_, fun q hq => ?_, fun w hw hw2 => ?_, fun w s hw hs hn => ?_⟩
    · rw [su_nr (by decide)] at hk
      have := h1 a k ha hk
      unfold ndu at this ⊢
      simp (disch := omega) only [su_nr]
      exact this
    · rw [su_nr (by decide)] at hq ⊢
      rw [su_nr (by decide)]
      exact h2 q hq
    · rw [su_nr (by decide)] at hw
      rw [su_nr (by decide)]
      exact h3 w hw hw2
    · rw [su_nr (by decide), su_nr (by decide)] at hn
      by_cases e : 12 * w + s = 12 * j + i
      · have e1 : w = j := by omega
        have e2 : s = i := by omega
        subst e1; subst e2
        exact absurd ⟨hj, hi⟩ hn
      · rw [su_ne (by omega)]
        exact h4 w s hw hs hn
  · rw [xi_f ht]
    exact h
theorem NJ_strike {σ : xS} (h : NJ σ) {a b : Int32} : NJ (s_strike σ a b) := by
  unfold s_strike
  by_cases ht : t_strike σ a b = 0
  · rw [xi_t ht]
    obtain ⟨h1, h2, h3, h4⟩ := h
    generalize 12 * a.toNatClampNeg + b.toNatClampNeg = u
    refine ⟨fun a k ha hk => ?_, fun q hq => ?_, fun w hw hw2 => ?_, fun w s hw hs hn => ?_⟩
    · have hk' : k < σ 8 a := by
        by_cases e : a = u
        · subst e; rw [su_eq] at hk; omega
        · rw [su_ne (by omega)] at hk; exact hk
      have := h1 a k ha hk'
      unfold ndu at this ⊢
      simp (disch := omega) only [su_nr]
      exact this
    · rw [su_nr (by decide)] at hq ⊢
      rw [su_nr (by decide)]
      exact h2 q hq
    · rw [su_nr (by decide)] at hw
      rw [su_nr (by decide)]
      exact h3 w hw hw2
    · rw [su_nr (by decide), su_nr (by decide)] at hn
      rw [su_nr (by decide)]
      exact h4 w s hw hs hn
  · rw [xi_f ht]
    exact h
theorem NJ_patch {σ : xS} (h : NJ σ) {x : Int64} : NJ (s_patch σ x) := by
  unfold s_patch
  by_cases ht : t_patch σ x = 0
  · rw [xi_t ht]
    obtain ⟨h1, h2, h3, h4⟩ := h
    have o : ∀ c i, c ≠ 20 → c ≠ 21 → c ≠ 22 → c ≠ 23 → c ≠ 24 → su (su (fo (pc1 x (σ 20 0)) 48 0 σ) 21 (σ 20 0) (σ 0 0)) 20 0 (σ 20 0 + 1) c i = σ c i := fun c i n0 n1 n2 n3 n4 => by
      rw [su_nr (fun q => n0 q.symm), su_nr (fun q => n1 q.symm), fo_pc1_o ⟨n2, n3, n4⟩]
    refine ⟨fun a k ha hk => ?_, fun q hq => ?_, fun w hw hw2 => ?_, fun w s hw hs hn => ?_⟩
    · rw [o 8 _ (by decide) (by decide) (by decide) (by decide) (by decide)] at hk
      have := h1 a k ha hk
      unfold ndu at this ⊢
      rw [o 9 _ (by decide) (by decide) (by decide) (by decide) (by decide), o 10 _ (by decide) (by decide) (by decide) (by decide) (by decide), o 12 _ (by decide) (by decide) (by decide) (by decide) (by decide), o 13 _ (by decide) (by decide) (by decide) (by decide) (by decide)]
      exact this
    · rw [su_eq] at hq
      rw [o 0 _ (by decide) (by decide) (by decide) (by decide) (by decide), su_nr (by decide)]
      by_cases e : q = σ 20 0
      · subst e; rw [su_eq]; exact Nat.le_refl _
      · rw [su_ne (by omega), fo_pc1_o (by decide)]
        exact h2 q (by omega)
    · rw [o 3 _ (by decide) (by decide) (by decide) (by decide) (by decide)] at hw
      rw [o 6 _ (by decide) (by decide) (by decide) (by decide) (by decide)]
      exact h3 w hw hw2
    · rw [o 3 _ (by decide) (by decide) (by decide) (by decide) (by decide), o 4 _ (by decide) (by decide) (by decide) (by decide) (by decide)] at hn
      rw [o 7 _ (by decide) (by decide) (by decide) (by decide) (by decide)]
      exact h4 w s hw hs hn
  · rw [xi_f ht]
    exact h
theorem NJ_wall {σ : xS} (h : NJ σ) {a b : Int32} : NJ (s_wall σ a b) := by
  unfold s_wall
  by_cases ht : t_wall σ a b = 0
  · rw [xi_t ht]
    obtain ⟨h1, h2, h3, h4⟩ := h
    show NJ (sw σ (σ 3 0) b.toNatClampNeg a.toNatClampNeg)
    refine ⟨fun a k ha hk => ?_, fun q hq => ?_, fun w hw hw2 => ?_, fun w s hw hs hn => ?_⟩
    · rw [sw_o (by decide)] at hk
      have := h1 a k ha hk
      unfold ndu at this ⊢
      simp (disch := omega) only [sw_o]
      exact this
    · rw [sw_o (by decide)] at hq
      rw [sw_o (by decide), sw_o (by decide)]
      exact h2 q hq
    · rw [sw_3] at hw
      rw [sw_o (by decide)]
      exact h3 w (by omega) hw2
    · rw [sw_o (by decide)]
      refine h4 w s hw hs (fun q => hn ?_)
      rw [sw_3, sw_4n (by omega)]
      exact ⟨by omega, q.2⟩
  · rw [xi_f ht]
    exact h
theorem NJ_lay {σ : xS} (h : NJ σ) {w s p k : Nat} (hk : 1 ≤ k) (h6 : ∀ a, a < 120 → σ 8 a ≤ 6) (hn6 : σ 8 (12 * w + s) < 6) (hws : 12 * w + s < 120) : NJ (lay w p k σ s) := by
  obtain ⟨h1, h2, h3, h4⟩ := h
  have o : ∀ c i, c < 8 ∨ 15 < c → lay w p k σ s c i = σ c i := fun c i hc => lay_o hc
  refine ⟨fun a j ha hj => ?_, fun q hq => ?_, fun w' hw hw2 => ?_, fun w' s' hw hs hn => ?_⟩
  · have hnd : 1 ≤ need p * k := Nat.mul_pos (by unfold need; (repeat' split) <;> omega) hk
    have hu : a = 12 * w + s ∧ j = σ 8 (12 * w + s) ∨ (j < σ 8 a ∧ 6 * a + j ≠ 6 * (12 * w + s) + σ 8 (12 * w + s)) := by
      by_cases e : a = 12 * w + s
      · subst e
        rw [lay_8s] at hj
        omega
      · have : lay w p k σ s 8 a = σ 8 a := by
          unfold lay
          simp (disch := omega) only [su_ne]
        rw [this] at hj
        have := h6 a ha
        omega
    rcases hu with ⟨rfl, rfl⟩ | ⟨hu, hne⟩
    · unfold ndu lay
      simp (disch := omega) only [su_ne, su_eq]
      exact ⟨hk, by omega⟩
    · have := h1 a j ha hu
      unfold ndu at this ⊢
      unfold lay
      simp (disch := omega) only [su_ne]
      exact this
  · rw [o 20 _ (by decide)] at hq
    rw [o 21 _ (by decide), o 0 _ (by decide)]
    exact h2 q hq
  · rw [o 3 _ (by decide)] at hw
    rw [o 6 _ (by decide)]
    exact h3 w' hw hw2
  · rw [o 3 _ (by decide), o 4 _ (by decide)] at hn
    rw [o 7 _ (by decide)]
    exact h4 w' s' hw hs hn
theorem NJ_init {σ : xS} (hs : ∀ c i, ¬ (c = 22 ∨ c = 23) → σ c i = s00 c i) : NJ σ := by
  have e : ∀ c i, c ≠ 1 → c ≠ 22 → c ≠ 23 → σ c i = 0 := fun c i n1 n2 n3 => by
    rw [hs c i (by omega)]
    unfold s00
    rw [if_neg n1, if_neg (by omega)]
  refine ⟨fun a k ha hk => ?_, fun q hq => ?_, fun w hw hw2 => e 6 w (by decide) (by decide) (by decide), fun w s hw hs hn => e 7 _ (by decide) (by decide) (by decide)⟩
  · rw [e 8 a (by decide) (by decide) (by decide)] at hk
    omega
  · rw [e 20 0 (by decide) (by decide) (by decide)] at hq
    omega
theorem NJ_fo_lay {w p k t : Nat} (hk : 1 ≤ k) (hp : p < 4) (hk2 : k ≤ 20) : ∀ (n s : Nat) (σ : xS), MI σ → NJ σ → w < σ 3 0 → t < σ 4 w → (∀ i, s ≤ i → i ≤ t → ¬ σ 8 (12 * w + i) = 6) → s + n = t + 1 → NJ (fo (lay w p k) n s σ) := by
  intro n
  induction n with
  | zero => intro s σ _ h _ _ _ _; exact h
  | succ n ih =>
    intro s σ hI h hw ht h6 hs
    have hW := hI.W
    have h4 := hI.w4 (w := w) (by omega)
    have q6 := h6 s (Nat.le_refl _) (by omega)
    have q8 := hI.w8 (a := 12 * w + s) (by omega)
    refine ih (s + 1) _ (MI_lay hI hw (by omega) hp hk2 q6) (NJ_lay h hk (fun a ha => hI.w8 ha) (by omega) (by omega)) (by rw [lay_o (by decide)]; exact hw) (by rw [lay_o (by decide)]; exact ht) (fun i hi hi2 => ?_) (by omega)
    rw [lay_8 (by omega)]
    exact h6 i (by omega) hi2
theorem NJ_coat {σ : xS} (h : NJ σ) (hI : MI σ) {w f t p k : Int32} : NJ (s_coat σ w f t p k) := by
  unfold s_coat
  by_cases ht : t_coat σ w f t p k = 0
  · rw [xi_t ht]
    have hW := hI.W
    refine NJ_cg (σ := s_coat1 σ w.toNatClampNeg f.toNatClampNeg t.toNatClampNeg p.toNatClampNeg k.toNatClampNeg) ?_ (fun c i hc => fo_mrk_o (by omega) _ _ _)
    unfold t_coat at ht
    have ha : areF σ w f t := Classical.byContradiction (fun q => by
      rw [xi_f q] at ht
      exact absurd ht (by decide))
    rw [xi_t ha] at ht
    have hi : isF f t p k := Classical.byContradiction (fun q => by
      rw [xi_f q] at ht
      exact absurd ht (by decide))
    rw [xi_t hi] at ht
    have ho : ¬ offF σ w.toNatClampNeg f.toNatClampNeg t.toNatClampNeg p.toNatClampNeg := fun q => by
      rw [xi_t q] at ht
      exact absurd ht (by decide)
    obtain ⟨⟨ha1, ha2⟩, ha3⟩ := ha
    obtain ⟨hi1, hi2, hi3⟩ := hi
    obtain ⟨jw, hjw, rfl⟩ := xin_of (by omega) ha1
    have h4 := hI.w4 (w := jw) (by omega)
    rw [nI_cl (by omega)] at ha2 ha3 ho ⊢
    obtain ⟨jf, hjf, rfl⟩ := xin_of (by omega) ha2
    obtain ⟨jt, hjt, rfl⟩ := xin_of (by omega) ha3
    obtain ⟨jp, hjp, rfl⟩ := xin_of (by decide) hi2
    obtain ⟨jk, hjk, hjk2, rfl⟩ := xrg_of (by decide) hi3
    rw [xlt (by omega) (by omega)] at hi1
    rw [nI_cl (by omega), nI_cl (by omega), nI_cl (by omega)] at ho ⊢
    rw [nI_cl (by omega)]
    exact NJ_fo_lay hjk hjp hjk2 _ _ _ hI h hjw hjt (fun i h1 h2 e => ho ⟨i, h1, h2, Or.inr (Or.inr e)⟩) (by omega)
  · rw [xi_f ht]; exact h
theorem NJ_pass {σ : xS} (h : NJ σ) (hI : MI σ) {d : Int32} (hN : NIc (s_pass σ d)) : NJ (s_pass σ d) := by
  refine ⟨hN, ?_⟩
  unfold s_pass
  by_cases ht : t_pass σ d = 0
  · rw [xi_t ht]
    have hd : σ 0 0 + d.toNatClampNeg ≤ 2000 := by
      have := (xi_0 ht (by decide)).2
      exact (xi_0 this (by decide)).1
    obtain ⟨p1, p2, -⟩ := pasd_all _ σ hI h.1 hd
    refine ⟨fun q hq => ?_, fun w hw hw2 => ?_, fun w s hw hs hn => ?_⟩
    · rw [p1 20 _ (by decide) (by decide)] at hq
      rw [p1 21 _ (by omega) (by omega), p2]
      have := h.2.1 q hq
      omega
    · rw [p1 3 _ (by decide) (by decide)] at hw
      rw [p1 6 _ (by omega) (by omega)]
      exact h.2.2.1 w hw hw2
    · rw [p1 3 _ (by decide) (by decide), p1 4 _ (by omega) (by omega)] at hn
      rw [p1 7 _ (by omega) (by omega)]
      exact h.2.2.2 w s hw hs hn
  · rw [xi_f ht]; exact h.2
theorem MI_init {σ : xS} (hs : ∀ c i, ¬ (c = 22 ∨ c = 23) → σ c i = s00 c i) (hs2 : ∀ i, i < 48 → σ 22 i = 0 ∧ σ 23 i = 0) : MI σ := by
  have e : ∀ c i, c ≠ 1 → c ≠ 22 → c ≠ 23 → σ c i = 0 := fun c i n1 n2 n3 => by
    rw [hs c i (by omega)]
    unfold s00
    rw [if_neg n1, if_neg (by omega)]
  have e1 : σ 1 0 = 10 := hs 1 0 (by decide)
  unfold MI
  simp (disch := decide) only [e, e1]
  refine ⟨by decide, by decide, by decide, by decide, fun _ _ => by decide, fun w hw => absurd hw (Nat.not_lt_zero _), fun _ _ => by decide, fun _ _ => by decide, by decide, fun _ _ => by decide, fun p hp => absurd hp (Nat.not_lt_zero _), fun _ _ => by decide, fun p i hp => absurd hp (Nat.not_lt_zero _), fun _ _ => by decide, by decide, fun _ _ => by decide, fun c hc => ?_, fun _ _ _ _ _ => trivial⟩
  rw [(hs2 c hc).1, (hs2 c hc).2]
  decide

