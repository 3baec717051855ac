/-! what the law asks of the walls and cells is kept -/
theorem SI_cg {σ σ' : xS} (h : SI σ) (e : ∀ c i, c = 0 ∨ c = 8 ∨ c = 9 ∨ c = 10 ∨ c = 11 ∨ c = 13 ∨ c = 22 ∨ c = 23 ∨ c = 24 → σ' c i = σ c i) : SI σ' := by
  obtain ⟨h1, h2, h3⟩ := h
  refine ⟨fun a k ha hk => ?_, fun c hc => ?_, fun a h4 h5 => by rw [e 8 a (by decide)]; exact h3 a h4 h5⟩
  · rw [e 8 a (by decide)] at hk ⊢
    rw [e 10 _ (by decide), e 11 _ (by decide), e 13 _ (by decide), e 11 _ (by decide), e 9 _ (by decide), e 9 _ (by decide), e 0 _ (by decide)]
    exact h1 a k ha hk
  · rw [e 22 _ (by decide), e 23 _ (by decide), e 24 _ (by decide)]
    exact h2 c hc
theorem SI_wall {σ : xS} (h : SI σ) {a b : Int32} : SI (s_wall σ a b) := by
  refine SI_cg h (fun c i hc => ?_)
  unfold s_wall
  by_cases q : t_wall σ a b = 0
  · rw [xi_t q]
    simp (disch := omega) only [su_ne]
  · rw [xi_f q]
theorem SI_weather {σ : xS} (h : SI σ) {a b : Int32} : SI (s_weather σ a b) := by
  refine SI_cg h (fun c i hc => ?_)
  unfold s_weather
  by_cases q : t_weather a b = 0
  · rw [xi_t q]
    simp (disch := omega) only [su_ne]
  · rw [xi_f q]
theorem SI_damp {σ : xS} (h : SI σ) {a b : Int32} : SI (s_damp σ a b) := by
  refine SI_cg h (fun c i hc => ?_)
  unfold s_damp
  by_cases q : t_damp σ a b = 0
  · rw [xi_t q]
    simp (disch := omega) only [su_ne]
  · rw [xi_f q]
theorem SI_joint {σ : xS} (h : SI σ) {a b : Int32} : SI (s_joint σ a b) := by
  refine SI_cg h (fun c i hc => ?_)
  unfold s_joint
  by_cases q : t_joint σ a b = 0
  · rw [xi_t q]
    simp (disch := omega) only [su_ne]
  · rw [xi_f q]
theorem SI_window {σ : xS} (h : SI σ) {a b : Int32} : SI (s_window σ a b) := by
  refine SI_cg h (fun c i hc => ?_)
  unfold s_window
  by_cases q : t_window a b = 0
  · rw [xi_t q]
    simp (disch := omega) only [su_ne]
  · rw [xi_f q]
theorem SI_profile {σ : xS} (h : SI σ) {a : Int32} : SI (s_profile σ a) := by
  refine SI_cg h (fun c i hc => ?_)
  unfold s_profile
  by_cases q : t_profile σ a = 0
  · rw [xi_t q]
    simp (disch := omega) only [su_ne]
  · rw [xi_f q]
theorem SI_depth {σ : xS} (h : SI σ) {a b : Int32} : SI (s_depth σ a b) := by
  refine SI_cg h (fun c i hc => ?_)
  unfold s_depth
  by_cases q : t_depth σ a b = 0
  · rw [xi_t q]
    simp (disch := omega) only [su_ne]
  · rw [xi_f q]
theorem s_scratch_o {σ : xS} {a b d : Int32} {c i : Nat} (hc : c ≠ 15) : s_scratch σ a b d c i = σ c i := by
  unfold s_scratch
  by_cases q : t_scratch σ a b d = 0
  · rw [xi_t q]
    exact fo_scr_o hc _ _ _
  · rw [xi_f q]
theorem SI_scratch {σ : xS} (h : SI σ) {a b d : Int32} : SI (s_scratch σ a b d) := SI_cg h (fun c i hc => s_scratch_o (by omega))
theorem SI_strike {σ : xS} (h : SI σ) {a b : Int32} : SI (s_strike σ a b) := by
  unfold s_strike
  by_cases q : t_strike σ a b = 0
  · rw [xi_t q]
    obtain ⟨h1, h2, h3⟩ := h
    generalize 12 * a.toNatClampNeg + b.toNatClampNeg = z
    have e : ∀ c i, ¬ c = 8 → su σ 8 z (σ 8 z - 1) c i = σ c i := fun c i hc => su_ne (fun q => hc q.1)
    have l8 : ∀ i, su σ 8 z (σ 8 z - 1) 8 i ≤ σ 8 i := fun i => by
      by_cases hz : i = z
      · subst hz; rw [su_eq]; omega
      · rw [su_ne (fun q => hz q.2)]; exact Nat.le_refl _
    refine ⟨fun a k ha hk => ?_, fun c hc => ?_, fun a h4 h5 => by have := l8 a; have := h3 a h4 h5; omega⟩
    · rw [e 10 _ (by decide), e 11 _ (by decide), e 13 _ (by decide), e 11 _ (by decide), e 9 _ (by decide), e 9 _ (by decide), e 0 _ (by decide)]
      have := l8 a
      obtain ⟨g1, g2, g3, g4⟩ := h1 a k ha (by omega)
      exact ⟨g1, g2, g3, fun q => g4 (by omega)⟩
    · rw [e 22 _ (by decide), e 23 _ (by decide), e 24 _ (by decide)]
      exact h2 c hc
  · rw [xi_f q]
    exact h
theorem s_patch_c {σ : xS} {y : Int64} (ht : t_patch σ y = 0) {c : Nat} (hc : c < 48) : (bt y c → s_patch σ y 22 c = σ 20 0 + 1 ∧ s_patch σ y 23 c = 0 ∧ s_patch σ y 24 c = 0) ∧ (¬ bt y c → s_patch σ y 22 c = σ 22 c ∧ s_patch σ y 23 c = σ 23 c ∧ s_patch σ y 24 c = σ 24 c) := by
  have e : ∀ d, (d = 22 ∨ d = 23 ∨ d = 24) → s_patch σ y d c = xi ((d = 22 ∨ d = 23 ∨ d = 24) ∧ 0 ≤ c ∧ c < 0 + 48 ∧ bt y c) (if d = 22 then σ 20 0 + 1 else 0) (σ d c) := fun d hd => by
    unfold s_patch
    rw [xi_t ht, su_ne (by omega), su_ne (by omega), fo_pc1x]
  refine ⟨fun h => ?_, fun h => ?_⟩
  · rw [e 22 (by decide), e 23 (by decide), e 24 (by decide), xi_t ⟨by decide, by omega, by omega, h⟩, xi_t ⟨by decide, by omega, by omega, h⟩, xi_t ⟨by decide, by omega, by omega, h⟩]
    exact ⟨rfl, rfl, rfl⟩
  · rw [e 22 (by decide), e 23 (by decide), e 24 (by decide), xi_f (fun q => h q.2.2.2), xi_f (fun q => h q.2.2.2), xi_f (fun q => h q.2.2.2)]
    exact ⟨rfl, rfl, rfl⟩
theorem s_patch_o {σ : xS} {y : Int64} {c i : Nat} (hc : ¬ (c = 20 ∨ c = 21 ∨ c = 22 ∨ c = 23 ∨ c = 24)) : s_patch σ y c i = σ c i := by
  unfold s_patch
  by_cases q : t_patch σ y = 0
  · rw [xi_t q, su_ne (by omega), su_ne (by omega), fo_pc1_o (by omega)]
  · rw [xi_f q]
theorem SI_patch {σ : xS} (h : SI σ) {y : Int64} : SI (s_patch σ y) := by
  by_cases q : t_patch σ y = 0
  · obtain ⟨h1, h2, h3⟩ := h
    refine ⟨fun a k ha hk => ?_, fun c hc => ?_, fun a h4 h5 => by rw [s_patch_o (by decide)]; exact h3 a h4 h5⟩
    · rw [s_patch_o (by decide)] at hk ⊢
      rw [s_patch_o (by decide), s_patch_o (by decide), s_patch_o (by decide), s_patch_o (by decide), s_patch_o (by decide), s_patch_o (by decide), s_patch_o (by decide)]
      exact h1 a k ha hk
    · obtain ⟨p1, p2⟩ := s_patch_c q hc
      by_cases hb : bt y c
      · obtain ⟨r1, r2, r3⟩ := p1 hb
        rw [r1, r2, r3]
        exact ⟨fun _ => rfl, fun _ => rfl⟩
      · obtain ⟨r1, r2, r3⟩ := p2 hb
        rw [r1, r2, r3]
        exact h2 c hc
  · unfold s_patch
    rw [xi_f q]
    exact h
theorem s_paint_o {σ : xS} {p g : Int32} {y : Int64} {sc : Prop} {c i : Nat} (hc : c ≠ 23 ∧ c ≠ 24) : s_paint σ p g y sc c i = σ c i := by
  unfold s_paint
  by_cases q : t_paint σ p g sc = 0
  · rw [xi_t q, fo_pt1_o hc]
  · rw [xi_f q]
theorem s_paint_c {σ : xS} {p g : Int32} {y : Int64} {sc : Prop} (ht : t_paint σ p g sc = 0) {c : Nat} (hc : c < 48) : (bt y c ∧ σ 22 c = p.toNatClampNeg + 1 → s_paint σ p g y sc 23 c = g.toNatClampNeg + 1) ∧ (¬ (bt y c ∧ σ 22 c = p.toNatClampNeg + 1) → s_paint σ p g y sc 23 c = σ 23 c ∧ s_paint σ p g y sc 24 c = σ 24 c) := by
  refine ⟨fun h => ?_, fun h => ?_⟩
  · unfold s_paint
    rw [xi_t ht, fo_pt1x, xi_t ⟨Or.inl rfl, by omega, by omega, h.1, h.2⟩]
    rfl
  · unfold s_paint
    rw [xi_t ht, fo_pt1x, fo_pt1x, xi_f (fun q => h q.2.2.2), xi_f (fun q => h q.2.2.2)]
    exact ⟨rfl, rfl⟩
theorem SI_paint {σ : xS} (h : SI σ) {p g : Int32} {y : Int64} {sc : Prop} : SI (s_paint σ p g y sc) := by
  by_cases q : t_paint σ p g sc = 0
  · obtain ⟨h1, h2, h3⟩ := h
    refine ⟨fun a k ha hk => ?_, fun c hc => ?_, fun a h4 h5 => by rw [s_paint_o (by decide)]; exact h3 a h4 h5⟩
    · rw [s_paint_o (by decide)] at hk ⊢
      rw [s_paint_o (by decide), s_paint_o (by decide), s_paint_o (by decide), s_paint_o (by decide), s_paint_o (by decide), s_paint_o (by decide), s_paint_o (by decide)]
      exact h1 a k ha hk
    · obtain ⟨p1, p2⟩ := s_paint_c (y := y) q hc
      rw [s_paint_o (by decide)]
      by_cases hb : bt y c ∧ σ 22 c = p.toNatClampNeg + 1
      · rw [p1 hb]
        refine ⟨fun z => ?_, fun z => by omega⟩
        have := hb.2
        omega
      · obtain ⟨r1, r2⟩ := p2 hb
        rw [r1, r2]
        exact h2 c hc
  · unfold s_paint
    rw [xi_f q]
    exact h
/-! coats -/
def lvl (p k d c : Nat) : Nat := if c = 9 then p else if c = 10 then k else if c = 11 then d else 0
theorem lay_c {σ : xS} {w p k s c u : Nat} (hc : c = 9 ∨ c = 10 ∨ c = 11 ∨ c = 13 ∨ c = 15) : lay w p k σ s c u = if u = 6 * (12 * w + s) + σ 8 (12 * w + s) then lvl p k (σ 0 0) c else σ c u := by
  unfold lay lvl
  by_cases hu : u = 6 * (12 * w + s) + σ 8 (12 * w + s)
  · rw [if_pos hu]
    subst hu
    rcases hc with rfl | rfl | rfl | rfl | rfl <;> simp [su]
  · rw [if_neg hu]
    rcases hc with rfl | rfl | rfl | rfl | rfl <;> simp [su, hu]
theorem fo_lay_ne {w p k c u : Nat} (hc : c = 9 ∨ c = 10 ∨ c = 11 ∨ c = 13 ∨ c = 15) : ∀ (n s : Nat) (σ : xS), (∀ j, s ≤ j → j < s + n → u ≠ 6 * (12 * w + j) + σ 8 (12 * w + j)) → fo (lay w p k) n s σ c u = σ c u := by
  intro n
  induction n with
  | zero => intro s σ _; rfl
  | succ n ih =>
    intro s σ h
    show fo (lay w p k) n (s + 1) (lay w p k σ s) c u = σ c u
    rw [ih (s + 1) (lay w p k σ s) (fun j h1 h2 => by
      rw [lay_8 (by omega)]
      exact h j (by omega) (by omega)), lay_c hc, if_neg (h s (by omega) (by omega))]
theorem fo_lay_at {w p k c j : Nat} (hc : c = 9 ∨ c = 10 ∨ c = 11 ∨ c = 13 ∨ c = 15) : ∀ (n s : Nat) (σ : xS), s ≤ j → j < s + n → (∀ i, s ≤ i → i < s + n → σ 8 (12 * w + i) < 6) → fo (lay w p k) n s σ c (6 * (12 * w + j) + σ 8 (12 * w + j)) = lvl p k (σ 0 0) c := by
  intro n
  induction n with
  | zero => intro s σ h1 h2; omega
  | succ n ih =>
    intro s σ h1 h2 h6
    show fo (lay w p k) n (s + 1) (lay w p k σ s) c _ = _
    by_cases hj : j = s
    · subst hj
      rw [fo_lay_ne hc n (j + 1) _ (fun i h3 h4 => by
        rw [lay_8 (by omega)]
        have a := h6 j (by omega) (by omega)
        have b := h6 i (by omega) (by omega)
        omega), lay_c hc, if_pos rfl]
    · have e : lay w p k σ s 8 (12 * w + j) = σ 8 (12 * w + j) := lay_8 hj
      have := ih (s + 1) (lay w p k σ s) (by omega) (by omega) (fun i h3 h4 => by
        rw [lay_8 (by omega)]
        exact h6 i (by omega) (by omega))
      rw [e, lay_o (by omega)] at this
      exact this
theorem coat_0 {σ : xS} {w f t p k : Int32} (h : t_coat σ w f t p k = 0) : areF σ w f t ∧ isF f t p k ∧ ¬ offF σ w.toNatClampNeg f.toNatClampNeg t.toNatClampNeg p.toNatClampNeg := by
  unfold t_coat at h
  obtain ⟨h1, h⟩ := xi_0 h (by decide)
  obtain ⟨h2, h⟩ := xi_0 h (by decide)
  refine ⟨h1, h2, fun q => ?_⟩
  rw [xi_t q] at h
  cases h
section
variable {σ : xS} {w f t p k : Nat}
def cok (σ : xS) (w f t p k : Nat) : Prop := w < 4 ∧ w < σ 3 0 ∧ f ≤ t ∧ t < σ 4 w ∧ p < 4 ∧ 1 ≤ k ∧ k ≤ 20 ∧ t_coat σ (nI w) (nI f) (nI t) (nI p) (nI k) = 0
theorem cok_s (hI : MI σ) (h : cok σ w f t p k) : s_coat σ (nI w) (nI f) (nI t) (nI p) (nI k) = fo (mrk w) (t + 1 - f) f (fo (lay w p k) (t + 1 - f) f σ) ∧ v_coat σ (nI w) (nI f) (nI t) (nI p) (nI k) = nI (mcn w (t + 1 - f) f (fo (lay w p k) (t + 1 - f) f σ)) ∧ ∀ i, f ≤ i → i ≤ t → ¬ refd σ w i p := by
  obtain ⟨h1, h2, h3, h4, h5, h6, h7, h8⟩ := h
  have w4 := hI.w4 (w := w) (by omega)
  obtain ⟨-, -, q⟩ := coat_0 h8
  rw [nI_cl (by omega), nI_cl (by omega), nI_cl (by omega), nI_cl (by omega)] at q
  refine ⟨?_, ?_, fun i hi1 hi2 hr => q ⟨i, hi1, hi2, hr⟩⟩
  · unfold s_coat s_coat1
    rw [xi_t h8, nI_cl (by omega), nI_cl (by omega), nI_cl (by omega), nI_cl (by omega), nI_cl (by omega)]
  · unfold v_coat s_coat1
    rw [xi_t h8, nI_cl (by omega), nI_cl (by omega), nI_cl (by omega), nI_cl (by omega), nI_cl (by omega)]
theorem cok_6 (hI : MI σ) (h : cok σ w f t p k) : ∀ i, f ≤ i → i < f + (t + 1 - f) → σ 8 (12 * w + i) < 6 := by
  intro i h1 h2
  have w4 := hI.w4 (w := w) (by have := h.1; omega)
  have h4 := h.2.2.2.1
  have hf := h.2.2.1
  have := hI.w8 (a := 12 * w + i) (by have := h.1; omega)
  have q := (cok_s hI h).2.2 i h1 (by omega)
  have : ¬ σ 8 (12 * w + i) = 6 := fun e => q (Or.inr (Or.inr e))
  omega
theorem cok_8 (hI : MI σ) (h : cok σ w f t p k) (a : Nat) : s_coat σ (nI w) (nI f) (nI t) (nI p) (nI k) 8 a = if a / 12 = w ∧ f ≤ a % 12 ∧ a % 12 ≤ t then σ 8 a + 1 else σ 8 a := by
  have hf := h.2.2.1
  have w4 := hI.w4 (w := w) (by have := h.1; omega)
  have h4 := h.2.2.2.1
  rw [(cok_s hI h).1, fo_mrk_o (by decide)]
  by_cases hw : a / 12 = w
  · have e : a = 12 * w + a % 12 := by omega
    have := fo_lay_8 (w := w) (p := p) (k := k) (i := a % 12) (t + 1 - f) f σ
    rw [← e] at this
    rw [this]
    by_cases hr : f ≤ a % 12 ∧ a % 12 ≤ t
    · rw [if_pos (by omega), if_pos ⟨hw, hr⟩]
    · rw [if_neg (by omega), if_neg (fun q => hr q.2)]
  · rw [if_neg (fun q => hw q.1)]
    exact fo_lay_8n hw _ _ _ (by omega)
theorem cok_at (hI : MI σ) (h : cok σ w f t p k) {c j : Nat} (hc : c = 9 ∨ c = 10 ∨ c = 11 ∨ c = 13 ∨ c = 15) (h1 : f ≤ j) (h2 : j ≤ t) : s_coat σ (nI w) (nI f) (nI t) (nI p) (nI k) c (6 * (12 * w + j) + σ 8 (12 * w + j)) = lvl p k (σ 0 0) c := by
  rw [(cok_s hI h).1, fo_mrk_o (by omega)]
  exact fo_lay_at hc _ _ _ h1 (by omega) (cok_6 hI h)
theorem cok_ne (hI : MI σ) (h : cok σ w f t p k) {c u : Nat} (hc : c = 9 ∨ c = 10 ∨ c = 11 ∨ c = 13 ∨ c = 15) (hu : ∀ j, f ≤ j → j ≤ t → u ≠ 6 * (12 * w + j) + σ 8 (12 * w + j)) : s_coat σ (nI w) (nI f) (nI t) (nI p) (nI k) c u = σ c u := by
  rw [(cok_s hI h).1, fo_mrk_o (by omega)]
  exact fo_lay_ne hc _ _ _ (fun j h1 h2 => hu j h1 (by omega))
theorem cok_o (hI : MI σ) (h : cok σ w f t p k) {c i : Nat} (hc : c < 8 ∨ 15 < c) : s_coat σ (nI w) (nI f) (nI t) (nI p) (nI k) c i = σ c i := by
  rw [(cok_s hI h).1, fo_mrk_o (by omega), fo_lay_o hc]
theorem SI_coat (hS : SI σ) (hI : MI σ) (h : cok σ w f t p k) : SI (s_coat σ (nI w) (nI f) (nI t) (nI p) (nI k)) := by
  have hf := h.2.2.1
  have hw := h.1
  have w4 := hI.w4 (w := w) (by omega)
  have h4 := h.2.2.2.1
  obtain ⟨h1, h2, h3⟩ := hS
  have h6 := cok_6 hI h
  have nr := (cok_s hI h).2.2
  refine ⟨fun a i ha hi => ?_, fun c hc => ?_, fun a g1 g2 => ?_⟩
  · rw [cok_8 hI h] at hi ⊢
    rw [cok_o hI h (c := 0) (by decide)]
    by_cases hr : a / 12 = w ∧ f ≤ a % 12 ∧ a % 12 ≤ t
    · rw [if_pos hr] at hi ⊢
      have ea : a = 12 * w + a % 12 := by omega
      have l6 := h6 (a % 12) hr.2.1 (by omega)
      rw [← ea] at l6
      have at9 : ∀ c, (c = 9 ∨ c = 10 ∨ c = 11 ∨ c = 13 ∨ c = 15) → s_coat σ (nI w) (nI f) (nI t) (nI p) (nI k) c (6 * a + σ 8 a) = lvl p k (σ 0 0) c := fun c hc => by
        have := cok_at hI h hc hr.2.1 hr.2.2
        rw [← ea] at this
        exact this
      have ne9 : ∀ c z, (c = 9 ∨ c = 10 ∨ c = 11 ∨ c = 13 ∨ c = 15) → z < σ 8 a → s_coat σ (nI w) (nI f) (nI t) (nI p) (nI k) c (6 * a + z) = σ c (6 * a + z) := fun c z hc hz => cok_ne hI h hc (fun j j1 j2 => by
        have := h6 j j1 (by omega)
        by_cases q : 12 * w + j = a
        · rw [q]; omega
        · omega)
      by_cases hk : i = σ 8 a
      · subst hk
        rw [at9 10 (by decide), at9 11 (by decide), at9 13 (by decide)]
        exact ⟨h.2.2.2.2.2.1, Nat.le_refl _, Or.inl rfl, fun q => by omega⟩
      · have hk' : i < σ 8 a := by omega
        obtain ⟨g1, g2, g3, g4⟩ := h1 a i ha hk'
        rw [ne9 10 i (by decide) hk', ne9 11 i (by decide) hk', ne9 13 i (by decide) hk', ne9 9 i (by decide) hk']
        refine ⟨g1, g2, g3, fun q => ?_⟩
        by_cases hk2 : i + 1 = σ 8 a
        · rw [hk2, at9 11 (by decide), at9 9 (by decide)]
          have nr' := nr (a % 12) hr.2.1 hr.2.2
          unfold refd at nr'
          rw [← ea] at nr'
          have u : up σ a = 6 * a + i := by unfold up; omega
          have hb1 : hb σ w a = σ 9 (6 * a + i) + 1 := by unfold hb; rw [if_neg (by omega), u]
          have c13 := hI.c (c := 6 * a + i) (by omega)
          have q1 : p ≤ σ 9 (6 * a + i) := Classical.byContradiction (fun z => nr' (Or.inl (by rw [hb1]; omega)))
          have q2 : ¬ σ 13 (6 * a + i) = 0 := fun z => nr' (Or.inr (Or.inl ⟨by omega, by rw [u]; exact z⟩))
          have q3 := g3.resolve_left q2
          exact ⟨by omega, q3, q1⟩
        · rw [ne9 11 (i + 1) (by decide) (by omega), ne9 9 (i + 1) (by decide) (by omega)]
          exact g4 (by omega)
    · rw [if_neg hr] at hi ⊢
      have h8 := hI.w8 (a := a) (by omega)
      have ne9 : ∀ c z, (c = 9 ∨ c = 10 ∨ c = 11 ∨ c = 13 ∨ c = 15) → z < 6 → s_coat σ (nI w) (nI f) (nI t) (nI p) (nI k) c (6 * a + z) = σ c (6 * a + z) := fun c z hc hz => cok_ne hI h hc (fun j j1 j2 => by
        have := h6 j j1 (by omega)
        by_cases q : 12 * w + j = a
        · exact absurd (show a / 12 = w ∧ f ≤ a % 12 ∧ a % 12 ≤ t by omega) hr
        · omega)
      rw [ne9 10 i (by decide) (by omega), ne9 11 i (by decide) (by omega), ne9 13 i (by decide) (by omega), ne9 9 i (by decide) (by omega)]
      obtain ⟨g1, g2, g3, g4⟩ := h1 a i ha hi
      refine ⟨g1, g2, g3, fun q => ?_⟩
      rw [ne9 11 (i + 1) (by decide) (by omega), ne9 9 (i + 1) (by decide) (by omega)]
      exact g4 q
  · rw [cok_o hI h (by decide), cok_o hI h (by decide), cok_o hI h (by decide)]
    exact h2 c hc
  · rw [cok_8 hI h, if_neg (by omega)]
    exact h3 a g1 g2
def sm14 (τ : xS) (σ : xS) (w : Nat) : Nat → Nat → Nat
  | 0, _ => 0
  | n + 1, s => τ 14 (6 * (12 * w + s) + σ 8 (12 * w + s)) + sm14 τ σ w n (s + 1)
theorem mrk_14 {τ : xS} {w s u : Nat} (hu : u ≠ up τ (12 * w + s)) : mrk w τ s 14 u = τ 14 u := by
  unfold mrk
  exact su_ne (fun q => hu q.2)
theorem fo_mrk_ne {w u : Nat} : ∀ (n s : Nat) (τ : xS), (∀ j, s ≤ j → j < s + n → u ≠ up τ (12 * w + j)) → fo (mrk w) n s τ 14 u = τ 14 u := by
  intro n
  induction n with
  | zero => intro s τ _; rfl
  | succ n ih =>
    intro s τ h
    show fo (mrk w) n (s + 1) (mrk w τ s) 14 u = _
    rw [ih (s + 1) (mrk w τ s) (fun j h1 h2 => by
      unfold up
      rw [mrk_o (by decide)]
      exact h j (by omega) (by omega)), mrk_14 (h s (by omega) (by omega))]
theorem mcn_sum {w : Nat} : ∀ (n s : Nat) (τ : xS), (∀ j, s ≤ j → j < s + n → τ 8 (12 * w + j) = σ 8 (12 * w + j) + 1 ∧ τ 8 (12 * w + j) ≤ 6) → mcn w n s τ = sm14 (fo (mrk w) n s τ) σ w n s := by
  intro n
  induction n with
  | zero => intro s τ _; rfl
  | succ n ih =>
    intro s τ h
    obtain ⟨q1, q2⟩ := h s (by omega) (by omega)
    have u : up τ (12 * w + s) = 6 * (12 * w + s) + σ 8 (12 * w + s) := by unfold up; omega
    have e0 : fo (mrk w) (n + 1) s τ = fo (mrk w) n (s + 1) (mrk w τ s) := rfl
    have e1 : fo (mrk w) n (s + 1) (mrk w τ s) 14 (6 * (12 * w + s) + σ 8 (12 * w + s)) = mkv τ w s := by
      rw [fo_mrk_ne n (s + 1) _ (fun j h1 h2 => by
        obtain ⟨p1, p2⟩ := h j (by omega) (by omega)
        unfold up
        rw [mrk_o (by decide)]
        omega)]
      unfold mrk
      rw [u, su_eq]
    show mkv τ w s + mcn w n (s + 1) (mrk w τ s) = fo (mrk w) (n + 1) s τ 14 (6 * (12 * w + s) + σ 8 (12 * w + s)) + sm14 (fo (mrk w) (n + 1) s τ) σ w n (s + 1)
    rw [e0, e1, ih (s + 1) (mrk w τ s) (fun j h1 h2 => by
      rw [mrk_o (by decide)]
      exact h j (by omega) (by omega))]
theorem cok_v (hI : MI σ) (h : cok σ w f t p k) : v_coat σ (nI w) (nI f) (nI t) (nI p) (nI k) = nI (sm14 (s_coat σ (nI w) (nI f) (nI t) (nI p) (nI k)) σ w (t + 1 - f) f) := by
  obtain ⟨c1, c2, -⟩ := cok_s hI h
  have hf := h.2.2.1
  rw [c2, c1]
  congr 1
  refine mcn_sum _ _ _ (fun j h1 h2 => ?_)
  have := cok_6 hI h j h1 h2
  rw [fo_lay_8, if_pos ⟨h1, h2⟩]
  omega
theorem sm14_le (hI : MI σ) {τ : xS} (hT : MI τ) (hw : w < 10) : ∀ (n s : Nat), s + n ≤ 12 → (∀ j, s ≤ j → j < s + n → σ 8 (12 * w + j) < 6) → sm14 τ σ w n s ≤ n := by
  intro n
  induction n with
  | zero => intro s _ _; exact Nat.le_refl 0
  | succ n ih =>
    intro s hs h
    have h6 := h s (by omega) (by omega)
    have := hT.c (c := 6 * (12 * w + s) + σ 8 (12 * w + s)) (by omega)
    have := ih (s + 1) (by omega) (fun j h1 h2 => h j (by omega) (by omega))
    show τ 14 (6 * (12 * w + s) + σ 8 (12 * w + s)) + sm14 τ σ w n (s + 1) ≤ n + 1
    omega
end
/-! days -/
theorem s_pass_0 {σ : xS} (hI : MI σ) (hN : NIc σ) {d : Nat} (hd : d < 2 ^ 31) (ht : t_pass σ (nI d) = 0) : s_pass σ (nI d) = pasd d σ ∧ v_pass σ (nI d) = nI (pasv d σ) ∧ σ 0 0 + d ≤ 2000 := by
  have h := pass_0 ht
  rw [nI_cl hd] at h
  refine ⟨?_, ?_, h⟩
  · unfold s_pass
    rw [xi_t ht, nI_cl hd]
  · unfold v_pass
    rw [xi_t ht, nI_cl hd]
theorem SI_pass {σ : xS} (hS : SI σ) (hI : MI σ) (hN : NIc σ) {d : Nat} (hd : d < 2 ^ 31) (hd1 : 1 ≤ d) (ht : t_pass σ (nI d) = 0) : SI (s_pass σ (nI d)) := by
  obtain ⟨e, -, h2⟩ := s_pass_0 hI hN hd ht
  rw [e]
  obtain ⟨p1, p2, p3, p4, p5, p6⟩ := pasd_all d σ hI hN h2
  obtain ⟨s1, s2, s3⟩ := hS
  have hW := hI.W
  have eo : ∀ c i, ¬ (c = 0 ∨ c = 12 ∨ c = 13 ∨ c = 14) → pasd d σ c i = σ c i := fun c i hc => p1 c i (by omega) (by omega)
  refine ⟨fun a k ha hk => ?_, fun c hc => ?_, fun a h3 h4 => by rw [eo 8 a (by decide)]; exact s3 a h3 h4⟩
  · rw [eo 8 _ (by decide)] at hk ⊢
    rw [eo 10 _ (by decide), eo 11 _ (by decide), eo 11 _ (by decide), eo 9 _ (by decide), eo 9 _ (by decide), p2]
    obtain ⟨g1, g2, g3, g4⟩ := s1 a k ha hk
    refine ⟨g1, by omega, Or.inr (by omega), fun q => ?_⟩
    obtain ⟨g5, g6, g7⟩ := g4 q
    refine ⟨?_, g6, g7⟩
    rw [p3 13 _ (by omega) (fun b hb hob => by
      have h8b := hI.w8 (a := b) (by omega)
      have h8a := hI.w8 (a := a) ha
      have hz : ¬ σ 8 b = 0 := fun z => hob (Or.inl z)
      unfold up
      by_cases hab : b = a
      · subst hab; omega
      · omega)]
    exact g5
  · rw [eo 22 _ (by decide), eo 23 _ (by decide), eo 24 _ (by decide)]
    exact s2 c hc
def wt (τ : xS) : Nat → Nat → Nat
  | 0, _ => 0
  | n + 1, s => (if ¬ τ 8 s = 0 ∧ τ 13 (6 * s + (τ 8 s - 1)) = 1 then 1 else 0) + wt τ n (s + 1)
theorem wt_le {τ : xS} : ∀ n s, wt τ n s ≤ n := by
  intro n
  induction n with
  | zero => intro s; exact Nat.le_refl 0
  | succ n ih =>
    intro s
    have := ih (s + 1)
    show (if _ then 1 else 0) + wt τ n (s + 1) ≤ n + 1
    split <;> omega
theorem sm_wt {τ : xS} {f : Nat → Nat} (hf : ∀ a, f a ≤ 1) (h : ∀ a, f a = 1 → a < 48 ∧ ¬ τ 8 a = 0 ∧ τ 13 (6 * a + (τ 8 a - 1)) = 1) : ∀ (m n s : Nat), s + n = 48 → sm f m s ≤ wt τ n s := by
  intro m
  induction m with
  | zero => intro n s _; exact Nat.zero_le _
  | succ m ih =>
    intro n s hs
    have f1 := hf s
    cases n with
    | zero =>
      have : ∀ m s, 48 ≤ s → sm f m s = 0 := by
        intro m
        induction m with
        | zero => intro s _; rfl
        | succ m ih =>
          intro s hs
          have g1 := hf s
          have : ¬ f s = 1 := fun q => by have := (h s q).1; omega
          show f s + sm f m (s + 1) = 0
          rw [ih (s + 1) (by omega)]
          omega
      rw [this (m + 1) s (by omega)]
      exact Nat.zero_le _
    | succ n =>
      have := ih n (s + 1) (by omega)
      show f s + sm f m (s + 1) ≤ (if ¬ τ 8 s = 0 ∧ τ 13 (6 * s + (τ 8 s - 1)) = 1 then 1 else 0) + wt τ n (s + 1)
      by_cases q : f s = 1
      · rw [if_pos (h s q).2]
        omega
      · omega
theorem pass_wet {σ : xS} (hS : SI σ) (hI : MI σ) (hN : NIc σ) {d : Nat} (hd : d < 2 ^ 31) (ht : t_pass σ (nI d) = 0) : pasv d σ ≤ wt (s_pass σ (nI d)) 48 0 := by
  obtain ⟨e, -, h2⟩ := s_pass_0 hI hN hd ht
  rw [e]
  obtain ⟨p1, p2, p3, p4, p5, p6⟩ := pasd_all d σ hI hN h2
  have hW := hI.W
  have eo : ∀ c i, ¬ (c = 0 ∨ c = 12 ∨ c = 13 ∨ c = 14) → pasd d σ c i = σ c i := fun c i hc => p1 c i (by omega) (by omega)
  rw [p6]
  have key : ∀ m s, s + m = 12 * σ 3 0 → sm (fun a => xi (bec σ d a) 1 0) m s = sm (fun a => xi (a < 12 * σ 3 0 ∧ bec σ d a) 1 0) m s := fun m s hs => sm_cg m s (fun i h1 h2 => by
    by_cases q : bec σ d i
    · rw [xi_t q, xi_t ⟨by omega, q⟩]
    · rw [xi_f q, xi_f (fun z => q z.2)])
  rw [key _ _ (by omega)]
  refine sm_wt (fun a => ?_) (fun a ha => ?_) _ 48 0 rfl
  · by_cases q : a < 12 * σ 3 0 ∧ bec σ d a
    · rw [xi_t q]; exact Nat.le_refl 1
    · rw [xi_f q]; exact Nat.zero_le 1
  · have q : a < 12 * σ 3 0 ∧ bec σ d a := Classical.byContradiction (fun q => by rw [xi_f q] at ha; cases ha)
    obtain ⟨q1, q2⟩ := q
    have hz : ¬ σ 8 a = 0 := fun z => q2.1 (Or.inl z)
    have h48 : a < 48 := Classical.byContradiction (fun z => hz (hS.2.2 a (by omega) (by omega)))
    refine ⟨h48, by rw [eo 8 a (by decide)]; exact hz, ?_⟩
    rw [eo 8 a (by decide)]
    have u : up σ a = 6 * a + (σ 8 a - 1) := by unfold up; omega
    have := (p4 a q1 q2).1
    rw [u] at this
    exact this
def ptc (σ : xS) (p : Nat) : Nat → Nat → Nat
  | 0, _ => 0
  | n + 1, j => (if σ 22 j = p + 1 then 1 else 0) + ptc σ p n (j + 1)
theorem ptn_all {σ : xS} {p : Nat} : ∀ n j, j + n ≤ 64 → ptn (-1) p σ n j = ptc σ p n j := by
  intro n
  induction n with
  | zero => intro j _; rfl
  | succ n ih =>
    intro j hj
    have hb : bt (-1) j := by
      have : ∀ c : Fin 64, bt (-1) c.1 := by unfold bt; decide +kernel
      exact this ⟨j, by omega⟩
    show ptv (-1) p σ j + ptn (-1) p σ n (j + 1) = (if σ 22 j = p + 1 then 1 else 0) + ptc σ p n (j + 1)
    rw [ih (j + 1) (by omega)]
    unfold ptv
    by_cases q : σ 22 j = p + 1
    · rw [xi_t ⟨hb, q⟩, if_pos q]
    · rw [xi_f (fun z => q z.2), if_neg q]
theorem ptc_le {σ : xS} {p : Nat} : ∀ n j, ptc σ p n j ≤ n := by
  intro n
  induction n with
  | zero => intro j; exact Nat.le_refl 0
  | succ n ih =>
    intro j
    have := ih (j + 1)
    show (if _ then 1 else 0) + ptc σ p n (j + 1) ≤ n + 1
    split <;> omega
