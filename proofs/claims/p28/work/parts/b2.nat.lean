/-! the questions, asked with numbers in range -/
section
variable {κ : Nat → Nat} {x i : Nat} {R : xR → xH → Prop} {σ : xS} {h0 ah : xH}
theorem xin_n {j n : Nat} (hj : j < n) (hn : n < 2 ^ 31) : xin (nI j) n := (xin_j (by omega) hn).mpr hj
theorem xrg_n {j a b : Nat} (h1 : a ≤ j) (h2 : j ≤ b) (hb : b < 2 ^ 31) : xrg (nI j) a b := (xrg_j (by omega)).mpr ⟨h1, h2⟩
theorem n_tells (W : Wd κ x h0 σ i ah) {a b c d e s : Nat} (ha : a < 100) (hb : b < 100) (hc : c < 100) (hd : d < 100) (he : e < 100) (hs : s < 100) (hR : ∀ ah', Wd κ x h0 σ i ah' → R (.inl (some (.int (nI (nTell a b c d e s))))) ah') : xm κ 87 [.ref x, .int (nI a), .int (nI b), .int (nI c), .int (nI d), .int (nI e), .int (nI s)] ah R := by
  have t : t_tells (nI a) (nI b) (nI c) (nI d) (nI e) (nI s) = 0 := by
    unfold t_tells
    exact xi_t ⟨xin_n ha (by decide), xin_n hb (by decide), xin_n hc (by decide), xin_n hd (by decide), xin_n he (by decide), xin_n hs (by decide)⟩
  refine w_tells W (fun _ ah' W' => ?_) (fun q => absurd (t.symm.trans q) (by decide))
  have := hR ah' W'
  unfold v_tells
  rw [xi_t t, nI_cl (by omega), nI_cl (by omega), nI_cl (by omega), nI_cl (by omega), nI_cl (by omega), nI_cl (by omega)]
  exact this
theorem n_fits (W : Wd κ x h0 σ i ah) {r p : Nat} (h1 : 1 ≤ r) (h2 : r ≤ 100000) (h3 : 1 ≤ p) (h4 : p ≤ 100000) (hR : ∀ ah', Wd κ x h0 σ i ah' → R (.inl (some (.int (nI (nT r p))))) ah') : xm κ 74 [.ref x, .int (nI r), .int (nI p)] ah R := by
  have t : t_fits (nI r) (nI p) = 0 := by
    unfold t_fits
    exact xi_t ⟨xrg_n h1 h2 (by decide), xrg_n h3 h4 (by decide)⟩
  refine w_fits W (fun _ ah' W' => ?_) (fun q => absurd (t.symm.trans q) (by decide))
  have := hR ah' W'
  unfold v_fits
  rw [xi_t t, nI_cl (by omega), nI_cl (by omega)]
  exact this
theorem n_step (W : Wd κ x h0 σ i ah) {r p : Nat} (h1 : 1 ≤ r) (h2 : r ≤ 100000) (h3 : 1 ≤ p) (h4 : p ≤ 100000) (hR : ∀ ah', Wd κ x h0 σ i ah' → R (.inl (some (.float (FP.fdiv (FP.i2f (nI r)) (FP.i2f (nI (nT r p))))))) ah') : xm κ 75 [.ref x, .int (nI r), .int (nI p)] ah R := by
  have t : t_fits (nI r) (nI p) = 0 := by
    unfold t_fits
    exact xi_t ⟨xrg_n h1 h2 (by decide), xrg_n h3 h4 (by decide)⟩
  refine w_step W (fun _ ah' W' => ?_) (fun q => absurd (t.symm.trans q) (by decide))
  have := hR ah' W'
  unfold v_step
  rw [xi_t t, nI_cl (by omega), nI_cl (by omega)]
  exact this
theorem n_cut (W : Wd κ x h0 σ i ah) {r t j : Nat} (h1 : 2000 ≤ r) (h2 : r ≤ 100000) (h3 : 1 ≤ t) (h4 : t ≤ 1000) (h5 : j < 21) (hR : ∀ ah', Wd κ x h0 σ i ah' → R (.inl (some (.int (nI (nC r t j))))) ah') : xm κ 77 [.ref x, .int (nI r), .int (nI t), .int (nI j)] ah R := by
  have t0 : t_cut (nI r) (nI t) (nI j) = 0 := by
    unfold t_cut
    exact xi_t ⟨xrg_n h1 h2 (by decide), xrg_n h3 h4 (by decide), xin_n h5 (by decide)⟩
  refine w_cut W (fun _ ah' W' => ?_) (fun q => absurd (t0.symm.trans q) (by decide))
  have := hR ah' W'
  unfold v_cut
  rw [xi_t t0, nI_cl (by omega), nI_cl (by omega), nI_cl (by omega)]
  exact this
theorem n_cell0 (W : Wd κ x h0 σ i ah) {c : Nat} (hc : c < 48) (hR : ∀ ah', Wd κ x h0 σ i ah' → R (.inl (some (.int (cv 22 (σ 22 c))))) ah') : xm κ 83 [.ref x, .int (nI c), .int 0] ah R := by
  have t0 : t_ofCell (nI c) 0 = 0 := by
    unfold t_ofCell
    rw [xi_t (xin_n hc (by decide))]
    exact xi_t (xin_n (j := 0) (by decide) (by decide))
  refine w_ofCell W (fun _ ah' W' => ?_) (fun q => absurd (t0.symm.trans q) (by decide)) (fun q => absurd (t0.symm.trans q) (by decide))
  have := hR ah' W'
  unfold v_ofCell
  rw [xi_t t0, nI_cl (by omega), if_pos rfl]
  exact this
theorem n_cell1 (W : Wd κ x h0 σ i ah) {c : Nat} (hc : c < 48) (hR : ∀ ah', Wd κ x h0 σ i ah' → R (.inl (some (.int (cv 23 (σ 23 c))))) ah') : xm κ 83 [.ref x, .int (nI c), .int 1] ah R := by
  have t0 : t_ofCell (nI c) 1 = 0 := by
    unfold t_ofCell
    rw [xi_t (xin_n hc (by decide))]
    exact xi_t (xin_n (j := 1) (by decide) (by decide))
  refine w_ofCell W (fun _ ah' W' => ?_) (fun q => absurd (t0.symm.trans q) (by decide)) (fun q => absurd (t0.symm.trans q) (by decide))
  have := hR ah' W'
  unfold v_ofCell
  rw [xi_t t0, nI_cl (by omega), if_neg (by decide), if_pos rfl]
  exact this
theorem n_cell2 (W : Wd κ x h0 σ i ah) {c : Nat} (hc : c < 48) (hR : ∀ ah', Wd κ x h0 σ i ah' → R (.inl (some (.int (nI (σ 24 c))))) ah') : xm κ 83 [.ref x, .int (nI c), .int 2] ah R := by
  have t0 : t_ofCell (nI c) 2 = 0 := by
    unfold t_ofCell
    rw [xi_t (xin_n hc (by decide))]
    exact xi_t (xin_n (j := 2) (by decide) (by decide))
  refine w_ofCell W (fun _ ah' W' => ?_) (fun q => absurd (t0.symm.trans q) (by decide)) (fun q => absurd (t0.symm.trans q) (by decide))
  have := hR ah' W'
  unfold v_ofCell
  rw [xi_t t0, nI_cl (by omega), if_neg (by decide), if_neg (by decide)]
  exact this
def ocv (σ : xS) (c q : Nat) : Int32 := if q = 0 then cv 22 (σ 22 c) else if q = 1 then cv 23 (σ 23 c) else nI (σ 24 c)
theorem n_cell (W : Wd κ x h0 σ i ah) {c q : Nat} (hc : c < 48) (hq : q < 3) (hR : ∀ ah', Wd κ x h0 σ i ah' → R (.inl (some (.int (ocv σ c q)))) ah') : xm κ 83 [.ref x, .int (nI c), .int (nI q)] ah R := by
  rcases (by omega : q = 0 ∨ q = 1 ∨ q = 2) with rfl | rfl | rfl
  · exact n_cell0 W hc hR
  · exact n_cell1 W hc hR
  · exact n_cell2 W hc hR
theorem n_over (W : Wd κ x h0 σ i ah) {p : Nat} (hp : p < σ 20 0) (hR : ∀ ah', Wd κ x h0 σ i ah' → R (.inl (some (.int (nI (ovn σ p p 0))))) ah') : xm κ 85 [.ref x, .int (nI p)] ah R := by
  have hW := W.I.W
  have hp9 : σ 20 0 ≤ 30 := W.I.Q
  have t0 : t_over σ (nI p) = 0 := by
    unfold t_over
    exact xi_t (xin_n hp (by omega))
  refine w_over W (fun _ ah' W' => ?_) (fun q => absurd (t0.symm.trans q) (by decide))
  have := hR ah' W'
  unfold v_over
  rw [xi_t t0, nI_cl (by omega)]
  exact this
theorem n_bill (W : Wd κ x h0 σ i ah) {w c p : Nat} (hw : w < σ 3 0) (hc : c < 6) (h1 : 1 ≤ p) (h2 : p ≤ 100) (hR : ∀ ah', Wd κ x h0 σ i ah' → R (.inl (some (.int (nI (nBill σ w c p))))) ah') : xm κ 90 [.ref x, .int (nI w), .int (nI c), .int (nI p)] ah R := by
  have hW := W.I.W
  have t0 : t_bill σ (nI w) (nI c) (nI p) = 0 := by
    unfold t_bill
    rw [xi_t (xin_n hw (by omega))]
    exact xi_t ⟨xin_n hc (by decide), xrg_n h1 h2 (by decide)⟩
  refine w_bill W (fun _ ah' W' => ?_) (fun q => absurd (t0.symm.trans q) (by decide)) (fun q => absurd (t0.symm.trans q) (by decide))
  have := hR ah' W'
  unfold v_bill
  rw [xi_t t0, nI_cl (by omega), nI_cl (by omega), nI_cl (by omega)]
  exact this
theorem n_anew (hi : i < 1000) (W : Wd κ x h0 σ i ah) {w s : Nat} (hw : w < σ 3 0) (hs : s < σ 4 w) (hR : ∀ ah', Wd κ x h0 σ i ah' → R (.inl (some (.int (nI (σ 8 (12 * w + s)))))) ah') : xm κ 64 [.ref x, .int (nI w), .int (nI s)] ah R := by
  have hW := W.I.W
  have h4 := W.I.w4 (w := w) (by omega)
  have t0 : t_coatsAnew σ (nI w) (nI s) = 0 := by
    unfold t_coatsAnew
    refine xi_t ⟨xin_n hw (by omega), ?_⟩
    rw [nI_cl (by omega)]
    exact xin_n hs (by omega)
  refine w_coatsAnew W hi (fun _ ah' W' => ?_) (fun q => absurd (t0.symm.trans q) (by decide))
  have := hR ah' W'
  unfold v_coatsAnew
  rw [xi_t t0, nI_cl (by omega), nI_cl (by omega)]
  exact this
theorem xisC_n (hI : MI σ) {w s c : Nat} (hw : w < σ 3 0) (hs : s < σ 4 w) (hc : c < σ 8 (12 * w + s)) : xisC σ (nI w) (nI s) (nI c) ∧ cat (nI w) (nI s) (nI c) = 6 * (12 * w + s) + c := by
  have hW := hI.W
  have h4 := hI.w4 (w := w) (by omega)
  have h8 := hI.w8 (a := 12 * w + s) (by omega)
  unfold xisC cat
  rw [nI_cl (by omega), nI_cl (by omega), nI_cl (by omega)]
  exact ⟨⟨⟨xin_n hw (by omega), xin_n hs (by omega)⟩, xin_n hc (by omega)⟩, rfl⟩
theorem n_oc (hK : KI κ) (W : Wd κ x h0 σ i ah) {w s c d : Nat} (hw : w < σ 3 0) (hs : s < σ 4 w) (hc : c < σ 8 (12 * w + s)) (hd : d < 6) (hR : ∀ ah', Wd κ x h0 σ i ah' → R (.inl (some (.int (nI (σ (ofC d) (6 * (12 * w + s) + c)))))) ah') : xm κ 63 [.ref x, .int (nI w), .int (nI s), .int (nI c), .int (nI d)] ah R := by
  obtain ⟨q1, q2⟩ := xisC_n W.I hw hs hc
  have t0 : t_ofCoat σ (nI w) (nI s) (nI c) (nI d) = 0 := by
    unfold t_ofCoat
    rw [xi_t q1]
    exact xi_t (xin_n hd (by decide))
  refine w_ofCoat hK W (fun _ ah' W' => ?_) (fun q => absurd (t0.symm.trans q) (by decide)) (fun q => absurd (t0.symm.trans q) (by decide))
  have := hR ah' W'
  unfold v_ofCoat
  rw [xi_t t0, nI_cl (by omega), q2]
  exact this
theorem n_text (hK : KI κ) (hS : KS κ) (W : Wd κ x h0 σ i ah) {w s c d : Nat} (hw : w < σ 3 0) (hs : s < σ 4 w) (hc : c < σ 8 (12 * w + s)) (hd : d < 2 ^ 31) {u : Nat} (hu : u = 6 * (12 * w + s) + c) (hR : ∀ ah', Wd κ x h0 σ i ah' → R (.inl (some (.int (nI (txc (σ 9 u) (σ 10 u) (σ 13 u) (σ 14 u) d))))) ah') : xm κ 65 [.ref x, .int (nI w), .int (nI s), .int (nI c), .int (nI d)] ah R := by
  subst hu
  obtain ⟨q1, q2⟩ := xisC_n W.I hw hs hc
  have t0 : t_text σ (nI w) (nI s) (nI c) (nI d) = 0 := by
    unfold t_text
    exact xi_t ⟨q1, by rw [llt0 hd]; omega⟩
  refine w_text hK hS W (fun _ ah' W' => ?_) (fun q => absurd (t0.symm.trans q) (by decide))
  have := hR ah' W'
  unfold v_text
  rw [xi_t t0, nI_cl hd, q2]
  exact this
end
/-! damp -/
theorem tell4 {a b c d e s : Nat} : nTell a b c d e s < 4 := by
  unfold nTell
  repeat' split
  all_goals omega
theorem tellM {a b c d e s : Nat} (m : Nat) : nTell (a + m) (b + m) (c + m) (d + m) (e + m) s = nTell a b c d e s := by
  unfold nTell
  repeat' split
  all_goals omega
theorem tell1 {a b c d e s : Nat} (h : nTell a b c d e s = 1) : e + 20 ≤ a ∧ 10 ≤ s ∧ ¬ nTell a b c d e 9 = 1 := by
  unfold nTell at h ⊢
  refine ⟨?_, ?_, ?_⟩
  · revert h; repeat' split
    all_goals omega
  · revert h; repeat' split
    all_goals omega
  · rw [if_neg (by omega)]
    repeat' split
    all_goals omega
theorem tell2 {a b c d e s : Nat} (h : nTell a b c d e s = 2) : (a < b ∨ a < c ∨ a < d) ∧ nTell e d c b a s = 2 := by
  unfold nTell at h ⊢
  refine ⟨?_, ?_⟩
  · revert h; repeat' split
    all_goals omega
  · revert h; repeat' split
    all_goals omega
theorem tell3 {a b c d e s : Nat} (h : nTell a b c d e s = 3) : a < e ∧ b < e ∧ c < e ∧ d < e := by
  unfold nTell at h
  revert h
  repeat' split
  all_goals omega
theorem tell0 {a b c d e s : Nat} (h : ¬ nTell a b c d e s = 1) : nTell a b c d e 0 = nTell a b c d e s := by
  unfold nTell at h ⊢
  revert h
  repeat' split
  all_goals omega
/-! repeats -/
theorem nT_pos {r p : Nat} : 1 ≤ nT r p := by
  unfold nT
  by_cases h : r / p = 0
  · rw [if_pos h]; exact Nat.le_refl 1
  · rw [if_neg h]
    have h1 : 1 ≤ r / p := Nat.pos_of_ne_zero h
    split
    · exact h1
    · exact Nat.le_add_left 1 _
theorem nT_le {r p : Nat} (h1 : 1 ≤ r) (h2 : 1 ≤ p) : nT r p ≤ r := by
  unfold nT
  by_cases h0 : r / p = 0
  · rw [if_pos h0]; exact h1
  · rw [if_neg h0]
    have h3 : r / p ≤ r := Nat.div_le_self r p
    by_cases hp : p = 1
    · subst hp
      rw [Nat.div_one, if_pos (by rw [Nat.one_mul, Nat.sub_self, Nat.zero_mul]; exact Nat.zero_le _)]
      exact Nat.le_refl _
    · have h4 : 2 * (r / p) ≤ r := Nat.le_trans (Nat.mul_le_mul_right _ (by omega)) (Nat.mul_div_le r p)
      split
      · omega
      · omega
theorem nT_near {r p : Nat} (hp : 1 ≤ p) : ((r : Int) - nT r p * p).natAbs * (nT r p + 1) ≤ ((r : Int) - (nT r p + 1) * p).natAbs * nT r p ∧ (nT r p = 1 ∨ ((r : Int) - nT r p * p).natAbs * (nT r p - 1) < ((r : Int) - (nT r p - 1) * p).natAbs * nT r p) := by
  obtain ⟨f, hf⟩ : ∃ f, f = r / p := ⟨_, rfl⟩
  obtain ⟨A, hA⟩ : ∃ A, A = r % p := ⟨_, rfl⟩
  have hr : r = p * f + A := by rw [hf, hA]; exact (Nat.div_add_mod r p).symm
  have hAp : A < p := by rw [hA]; exact Nat.mod_lt _ hp
  have e1 : r - p * f = A := by omega
  have e2 : p * (f + 1) - r = p - A := by
    have : p * (f + 1) = p * f + p := Nat.mul_succ _ _
    omega
  have hn : nT r p = if f = 0 then 1 else if A * (f + 1) ≤ (p - A) * f then f else f + 1 := by
    unfold nT
    rw [← hf, e1, e2]
  obtain ⟨B, hB⟩ : ∃ B, p = A + B := ⟨p - A, by omega⟩
  have hpB : p - A = B := by omega
  rw [hpB] at hn
  have hri : (r : Int) = p * f + A := by rw [hr]; simp
  by_cases h0 : f = 0
  · rw [if_pos h0] at hn
    rw [hn]
    subst h0
    refine ⟨?_, Or.inl rfl⟩
    have : r = A := by omega
    have g1 : ((r : Int) - (1 : Nat) * p).natAbs = p - A := by omega
    have g2 : ((r : Int) - ((1 : Nat) + 1) * p).natAbs = 2 * p - A := by omega
    rw [g1, g2]
    omega
  · rw [if_neg h0] at hn
    have hpf : p ≤ p * f := Nat.le_mul_of_pos_right p (by omega)
    by_cases hc : A * (f + 1) ≤ B * f
    · rw [if_pos hc] at hn
      rw [hn]
      have m1 : (f : Int) * p = p * f := Int.mul_comm _ _
      have m2 : ((f : Int) + 1) * p = p * f + p := by rw [Int.add_mul, Int.one_mul, m1]
      have m3 : ((f : Int) - 1) * p = p * f - p := by rw [Int.sub_mul, Int.one_mul, m1]
      have g1 : ((r : Int) - f * p).natAbs = A := by rw [m1, hri]; omega
      have g2 : ((r : Int) - (f + 1) * p).natAbs = B := by rw [m2, hri]; omega
      have g3 : ((r : Int) - (f - 1) * p).natAbs = A + p := by rw [m3, hri]; omega
      refine ⟨by rw [g1, g2]; exact hc, ?_⟩
      by_cases h1 : f = 1
      · exact Or.inl h1
      · refine Or.inr ?_
        rw [g1, g3]
        have q1 : A * (f - 1) ≤ A * f := Nat.mul_le_mul_left _ (by omega)
        have q2 : (A + p) * f = A * f + p * f := Nat.add_mul _ _ _
        omega
    · rw [if_neg hc] at hn
      rw [hn]
      have m1 : (((f + 1 : Nat) : Int)) * p = p * f + p := by
        rw [Int.natCast_add, Int.add_mul, Int.mul_comm (f : Int) p]
        simp
      have m2 : (((f + 1 : Nat) : Int) + 1) * p = p * f + p + p := by rw [Int.add_mul, Int.one_mul, m1]
      have m3 : (((f + 1 : Nat) : Int) - 1) * p = p * f := by rw [Int.sub_mul, Int.one_mul, m1]; omega
      have g1 : ((r : Int) - ((f + 1 : Nat) : Int) * p).natAbs = B := by rw [m1, hri]; omega
      have g2 : ((r : Int) - (((f + 1 : Nat) : Int) + 1) * p).natAbs = B + p := by rw [m2, hri]; omega
      have g3 : ((r : Int) - (((f + 1 : Nat) : Int) - 1) * p).natAbs = A := by rw [m3, hri]; omega
      refine ⟨?_, Or.inr ?_⟩
      · rw [g1, g2]
        have q1 : B * (f + 1 + 1) = B * (f + 1) + B := Nat.mul_succ _ _
        have q2 : (B + p) * (f + 1) = B * (f + 1) + p * (f + 1) := Nat.add_mul _ _ _
        have q3 : p ≤ p * (f + 1) := Nat.le_mul_of_pos_right p (by omega)
        omega
      · rw [g1, g3]
        show B * (f + 1 - 1) < A * (f + 1)
        rw [Nat.add_sub_cancel]
        omega
/-! tiles -/
theorem nC_lt {r t j : Nat} (ht : 1 ≤ t) : nC r t j < t := by
  have h1 : (r - t) / 2 % (t + j) < t + j := Nat.mod_lt _ (by omega)
  unfold nC
  generalize (r - t) / 2 % (t + j) = u at h1
  generalize (r - j) / 2 % (t + j) = v
  dsimp only
  repeat' split
  all_goals omega
