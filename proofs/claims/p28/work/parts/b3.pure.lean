/-! floats: a run by the times that fit, cut to a whole number -/
theorem fstep {r n : Nat} (hn : 1 ≤ n) (hnr : n ≤ r) (hr : r ≤ 100000) : FP.f2i (FP.fdiv (FP.i2f (nI r)) (FP.i2f (nI n))) = nI (r / n) := by
  show FP.Core.f2i (FP.Core.fdiv (FP.Core.i2f (nI r)) (FP.Core.i2f (nI n))) = nI (r / n)
  have ir : (nI r).toInt = (r : Int) := nI_toInt (by omega)
  have inn : (nI n).toInt = (n : Int) := nI_toInt (by omega)
  have wr : FP.Core.Whole (r : Int) (FP.Core.val32 (FP.Core.i2f (nI r))) := by
    have h := FP.Core.i2f_int (a := nI r) (by rw [ir]; omega)
    rw [ir] at h
    exact h
  have wn : FP.Core.Whole (n : Int) (FP.Core.val32 (FP.Core.i2f (nI n))) := by
    have h := FP.Core.i2f_int (a := nI n) (by rw [inn]; omega)
    rw [inn] at h
    exact h
  have fr := FP.Core.val32_fits (FP.Core.i2f (nI r))
  have fn := FP.Core.val32_fits (FP.Core.i2f (nI n))
  have hv := FP.Core.val32_fdiv (FP.Core.i2f (nI r)) (FP.Core.i2f (nI n))
  have hval := FP.Core.f2i_val (a := FP.Core.fdiv (FP.Core.i2f (nI r)) (FP.Core.i2f (nI n)))
  generalize FP.Core.f2i (FP.Core.fdiv (FP.Core.i2f (nI r)) (FP.Core.i2f (nI n))) = res at hval ⊢
  rw [hv] at hval
  clear hv
  generalize FP.Core.val32 (FP.Core.i2f (nI r)) = dr at wr fr hval
  generalize FP.Core.val32 (FP.Core.i2f (nI n)) = dn at wn fn hval
  obtain ⟨k, hk⟩ : ∃ k, k = r / n := ⟨_, rfl⟩
  rw [← hk]
  have hk1 : 1 ≤ k := by rw [hk]; exact (Nat.one_le_div_iff (by omega)).mpr hnr
  have hkr : k ≤ r := by rw [hk]; exact Nat.div_le_self _ _
  have hkn : k * n ≤ r := by rw [hk]; exact Nat.div_mul_le_self _ _
  have hkn2 : r < (k + 1) * n := by rw [hk, Nat.mul_comm]; exact Nat.lt_mul_div_succ r (by omega)
  have wk : FP.Core.Whole (k : Int) (FP.Core.val32 (FP.Core.i2f (nI k))) := by
    have ik : (nI k).toInt = (k : Int) := nI_toInt (by omega)
    have h := FP.Core.i2f_int (a := nI k) (by rw [ik]; omega)
    rw [ik] at h
    exact h
  have fk := FP.Core.val32_fits (FP.Core.i2f (nI k))
  have zk := FP.Core.whole_zval FP.Core.good_b32 fk wk
  generalize FP.Core.val32 (FP.Core.i2f (nI k)) = dk at wk fk zk
  cases dr with
  | nan => exact wr.elim
  | inf s => exact wr.elim
  | fin s c q =>
  cases dn with
  | nan => exact wn.elim
  | inf s => exact wn.elim
  | fin t d q2 =>
  have zr := FP.Core.whole_zval FP.Core.good_b32 fr wr
  have zn := FP.Core.whole_zval FP.Core.good_b32 fn wn
  have hc : c ≠ 0 := fun e => by
    have := (FP.Core.whole_zero wr).mp e
    omega
  have hd : d ≠ 0 := fun e => by
    have := (FP.Core.whole_zero wn).mp e
    omega
  have hs : s = false := by
    rw [FP.Core.whole_sign wr (by omega)]
    exact decide_eq_false (by omega)
  have ht : t = false := by
    rw [FP.Core.whole_sign wn (by omega)]
    exact decide_eq_false (by omega)
  subst hs
  subst ht
  have q149 : FP.Core.Fmt.qmin FP.Core.b32 = -149 := by decide
  have q104 : FP.Core.Fmt.qmax FP.Core.b32 = 104 := by decide
  have hq1 : -149 ≤ q := by have := fr.2.1; rw [q149] at this; exact this
  have hq2 : q ≤ 104 := by have := fr.2.2.1; rw [q104] at this; exact this
  have hp1 : -149 ≤ q2 := by have := fn.2.1; rw [q149] at this; exact this
  have hp2 : q2 ≤ 104 := by have := fn.2.2.1; rw [q104] at this; exact this
  obtain ⟨Q, hQ⟩ : ∃ Q : Nat, q = (Q : Int) - 149 := ⟨(q + 149).toNat, by omega⟩
  obtain ⟨P, hP⟩ : ∃ P : Nat, q2 = (P : Int) - 149 := ⟨(q2 + 149).toNat, by omega⟩
  have er : c * 2 ^ Q = r * 2 ^ 149 := by
    have h : ((c * 2 ^ (q - FP.Core.Fmt.qmin FP.Core.b32).toNat : Nat) : Int) = (r : Int) * ((2 ^ (-FP.Core.Fmt.qmin FP.Core.b32).toNat : Nat) : Int) := zr
    rw [q149, show (q - -149).toNat = Q by omega, show (-(-149) : Int).toNat = 149 from rfl] at h
    exact_mod_cast h
  have en : d * 2 ^ P = n * 2 ^ 149 := by
    have h : ((d * 2 ^ (q2 - FP.Core.Fmt.qmin FP.Core.b32).toNat : Nat) : Int) = (n : Int) * ((2 ^ (-FP.Core.Fmt.qmin FP.Core.b32).toNat : Nat) : Int) := zn
    rw [q149, show (q2 - -149).toNat = P by omega, show (-(-149) : Int).toNat = 149 from rfl] at h
    exact_mod_cast h
  have ek : FP.Core.zmag FP.Core.b32 dk = k * 2 ^ 149 := by
    have h : FP.Core.signed (FP.Core.sgn dk) (FP.Core.zmag FP.Core.b32 dk) = (k : Int) * ((2 ^ (-FP.Core.Fmt.qmin FP.Core.b32).toNat : Nat) : Int) := zk
    rw [q149, show (-(-149) : Int).toNat = 149 from rfl] at h
    have hp : (0 : Int) ≤ (k : Int) * ((2 ^ 149 : Nat) : Int) := Int.mul_nonneg (by omega) (by omega)
    have h3 : ((k * 2 ^ 149 : Nat) : Int) = (k : Int) * ((2 ^ 149 : Nat) : Int) := Int.natCast_mul _ _
    have hk0 : 0 < k * 2 ^ 149 := Nat.mul_pos hk1 (Nat.two_pow_pos _)
    unfold FP.Core.signed at h
    split at h
    · omega
    · omega
  have equo : FP.Core.quotient FP.Core.b32 (.fin false c q) (.fin false d q2) = FP.Core.roundRatio FP.Core.b32 false c d (q - q2) := by
    show (if d = 0 then (if c = 0 then FP.Core.Datum.nan else FP.Core.Datum.inf (false != false)) else FP.Core.roundRatio FP.Core.b32 (false != false) c d (q - q2)) = _
    rw [if_neg hd]
    rfl
  rw [equo] at hval
  have hval := hval (FP.Core.roundRatio_ne_nan _ _ _ _ _)
  rw [FP.Core.sgn_roundRatio] at hval
  have hP2 : 0 < 2 ^ P := Nat.two_pow_pos _
  have eI : FP.Core.inUnits c (q - q2) (-300) * 2 ^ P = r * 2 ^ 149 * 2 ^ 300 := by
    unfold FP.Core.inUnits
    rw [show (q - q2 - -300).toNat = Q + 300 - P by omega, Nat.mul_assoc, ← Nat.pow_add, show Q + 300 - P + P = Q + 300 by omega, Nat.pow_add, ← Nat.mul_assoc, er]
  have lo := FP.Core.zmag_roundRatio_ge (f := FP.Core.b32) FP.Core.good_b32 (s := false) (A := c) (B := d) (e := q - q2) (e0 := -300) (V := dk) (by omega) fk (by rw [q149]; omega) (by omega) (by
    rw [ek, q149, show ((-149 : Int) - -300).toNat = 151 from rfl]
    refine Nat.le_of_mul_le_mul_right (c := 2 ^ P) ?_ hP2
    rw [eI, Nat.mul_assoc (k * 2 ^ 149 * 2 ^ 151), en]
    have e1 : k * 2 ^ 149 * 2 ^ 151 * (n * 2 ^ 149) = k * n * (2 ^ 149 * 2 ^ 300) := by
      rw [show (2 : Nat) ^ 300 = 2 ^ 151 * 2 ^ 149 from by decide]
      generalize (2 : Nat) ^ 149 = a
      generalize (2 : Nat) ^ 151 = b
      ac_rfl
    rw [e1, Nat.mul_assoc r]
    exact Nat.mul_le_mul_right _ hkn)
  obtain ⟨L, hL⟩ : ∃ L, L = k.log2 := ⟨_, rfl⟩
  have hL1 : 2 ^ L ≤ k := by rw [hL]; exact Nat.log2_self_le (by omega)
  have hL2 : k < 2 ^ (L + 1) := by rw [hL]; exact Nat.lt_log2_self
  have hL3 : L ≤ 16 := by
    refine Classical.byContradiction (fun q => ?_)
    have : 2 ^ 17 ≤ 2 ^ L := Nat.pow_le_pow_right (by decide) (by omega)
    have : (2 : Nat) ^ 17 = 131072 := by decide
    omega
  obtain ⟨j, hj⟩ : ∃ j, j + L = 23 := ⟨23 - L, by omega⟩
  have hjL : 2 ^ j * 2 ^ L = 8388608 := by rw [← Nat.pow_add, hj]
  have hj0 : 0 < 2 ^ j := Nat.two_pow_pos _
  have c1 : 8388608 ≤ (k + 1) * 2 ^ j - 1 := by
    have a1 : 2 ^ L * 2 ^ j ≤ k * 2 ^ j := Nat.mul_le_mul_right _ hL1
    have a2 : (k + 1) * 2 ^ j = k * 2 ^ j + 2 ^ j := Nat.succ_mul _ _
    rw [Nat.mul_comm] at hjL
    omega
  have c2 : (k + 1) * 2 ^ j - 1 < 16777216 := by
    have a1 : (k + 1) * 2 ^ j ≤ 2 ^ (L + 1) * 2 ^ j := Nat.mul_le_mul_right _ hL2
    have a2 : 2 ^ (L + 1) * 2 ^ j = 2 * (2 ^ j * 2 ^ L) := by rw [Nat.pow_succ]; ac_rfl
    rw [hjL] at a2
    omega
  have njl : n ≤ 2 ^ j := by
    refine Classical.byContradiction (fun q => ?_)
    have a1 : 2 ^ j * 2 ^ L ≤ n * 2 ^ L := Nat.mul_le_mul_right _ (by omega)
    have a2 : n * 2 ^ L ≤ n * k := Nat.mul_le_mul_left _ hL1
    have a3 : n * k = k * n := Nat.mul_comm _ _
    omega
  have fV : FP.Core.fits FP.Core.b32 (.fin false ((k + 1) * 2 ^ j - 1) (-(j : Int))) := by
    refine ⟨c2, ?_, ?_, Or.inr c1⟩
    · rw [q149]; omega
    · rw [q104]; omega
  have hi := FP.Core.zmag_roundRatio_le (f := FP.Core.b32) FP.Core.good_b32 (s := false) (A := c) (B := d) (e := q - q2) (e0 := -300) (V := .fin false ((k + 1) * 2 ^ j - 1) (-(j : Int))) (by omega) fV (fun h => by cases h) (by rw [q149]; omega) (by omega) (by
    show _ ≤ FP.Core.inUnits ((k + 1) * 2 ^ j - 1) (-(j : Int)) (FP.Core.Fmt.qmin FP.Core.b32) * _ * d
    rw [q149, show ((-149 : Int) - -300).toNat = 151 from rfl]
    refine Nat.le_of_mul_le_mul_right (c := 2 ^ P) ?_ hP2
    rw [eI, Nat.mul_assoc (_ * 2 ^ 151), en]
    unfold FP.Core.inUnits
    rw [show (-(j : Int) - -149).toNat = 149 - j by omega]
    have e1 : ((k + 1) * 2 ^ j - 1) * 2 ^ (149 - j) * 2 ^ 151 * (n * 2 ^ 149) = ((k + 1) * 2 ^ j - 1) * n * 2 ^ (149 - j) * 2 ^ 300 := by
      rw [show (2 : Nat) ^ 300 = 2 ^ 151 * 2 ^ 149 from by decide]
      generalize (2 : Nat) ^ 149 = a
      generalize (2 : Nat) ^ 151 = b
      ac_rfl
    rw [e1]
    refine Nat.mul_le_mul_right _ ?_
    have e2 : r * 2 ^ 149 = r * 2 ^ j * 2 ^ (149 - j) := by rw [Nat.mul_assoc, ← Nat.pow_add, show j + (149 - j) = 149 by omega]
    rw [e2]
    refine Nat.mul_le_mul_right _ ?_
    have e3 : ((k + 1) * 2 ^ j - 1) * n = (k + 1) * n * 2 ^ j - n := by
      rw [Nat.sub_mul, Nat.one_mul]
      congr 1
      ac_rfl
    have e4 : (r + 1) * 2 ^ j ≤ (k + 1) * n * 2 ^ j := Nat.mul_le_mul_right _ hkn2
    have e5 : (r + 1) * 2 ^ j = r * 2 ^ j + 2 ^ j := Nat.succ_mul _ _
    omega)
  have hz : FP.Core.zmag FP.Core.b32 (.fin false ((k + 1) * 2 ^ j - 1) (-(j : Int))) < (k + 1) * 2 ^ 149 := by
    show FP.Core.inUnits ((k + 1) * 2 ^ j - 1) (-(j : Int)) (FP.Core.Fmt.qmin FP.Core.b32) < _
    unfold FP.Core.inUnits
    rw [q149, show (-(j : Int) - -149).toNat = 149 - j by omega]
    have e2 : (k + 1) * 2 ^ 149 = (k + 1) * 2 ^ j * 2 ^ (149 - j) := by rw [Nat.mul_assoc, ← Nat.pow_add, show j + (149 - j) = 149 by omega]
    rw [e2]
    exact Nat.mul_lt_mul_of_pos_right (by omega) (Nat.two_pow_pos _)
  rw [ek] at lo
  have hdiv : FP.Core.zmag FP.Core.b32 (FP.Core.roundRatio FP.Core.b32 false c d (q - q2)) / FP.Core.one32 = k := by
    show _ / 2 ^ 149 = k
    generalize FP.Core.zmag FP.Core.b32 (FP.Core.roundRatio FP.Core.b32 false c d (q - q2)) = z at lo hi
    rw [Nat.div_eq_iff (Nat.two_pow_pos _)]
    have : (k + 1) * 2 ^ 149 = k * 2 ^ 149 + 2 ^ 149 := Nat.succ_mul _ _
    have := Nat.two_pow_pos 149
    omega
  rw [hdiv] at hval
  have hsig : FP.Core.signed false k = (k : Int) := rfl
  rw [hsig] at hval
  refine Int32.toInt.inj ?_
  rw [hval, nI_toInt (by omega)]
  omega
/-! mitres (by the parts ahead) -/
theorem mtk : ∀ a, a < 100 → ∀ b, b < 100 → vf_n32 (FP.fmul (mits (a + 1) (b + 1)) 1166016512) ∧ 0 < FP.f2i (FP.fmul (mits (a + 1) (b + 1)) 1166016512) ∧ FP.f2i (FP.fmul (mits (a + 1) (b + 1)) 1166016512) < 4096 := by
  intro a ha b hb
  have e : a = 5 * (a / 5) + a % 5 := by omega
  have h : a / 5 < 20 := by omega
  have h5 : a % 5 < 5 := by omega
  rw [e]
  generalize a % 5 = r at h5 ⊢
  generalize a / 5 = c at h ⊢
  have : c = 0 ∨ c = 1 ∨ c = 2 ∨ c = 3 ∨ c = 4 ∨ c = 5 ∨ c = 6 ∨ c = 7 ∨ c = 8 ∨ c = 9 ∨ c = 10 ∨ c = 11 ∨ c = 12 ∨ c = 13 ∨ c = 14 ∨ c = 15 ∨ c = 16 ∨ c = 17 ∨ c = 18 ∨ c = 19 := by omega
  rcases this with rfl | rfl | rfl | rfl | rfl | rfl | rfl | rfl | rfl | rfl | rfl | rfl | rfl | rfl | rfl | rfl | rfl | rfl | rfl | rfl
  · exact mok_of (mtk_0 r h5 b hb)
  · exact mok_of (mtk_1 r h5 b hb)
  · exact mok_of (mtk_2 r h5 b hb)
  · exact mok_of (mtk_3 r h5 b hb)
  · exact mok_of (mtk_4 r h5 b hb)
  · exact mok_of (mtk_5 r h5 b hb)
  · exact mok_of (mtk_6 r h5 b hb)
  · exact mok_of (mtk_7 r h5 b hb)
  · exact mok_of (mtk_8 r h5 b hb)
  · exact mok_of (mtk_9 r h5 b hb)
  · exact mok_of (mtk_10 r h5 b hb)
  · exact mok_of (mtk_11 r h5 b hb)
  · exact mok_of (mtk_12 r h5 b hb)
  · exact mok_of (mtk_13 r h5 b hb)
  · exact mok_of (mtk_14 r h5 b hb)
  · exact mok_of (mtk_15 r h5 b hb)
  · exact mok_of (mtk_16 r h5 b hb)
  · exact mok_of (mtk_17 r h5 b hb)
  · exact mok_of (mtk_18 r h5 b hb)
  · exact mok_of (mtk_19 r h5 b hb)
theorem mtk5 : vf_n32 (FP.fmul 1056964608 1166016512) ∧ FP.f2i (FP.fmul 1056964608 1166016512) = 2048 := by
  unfold vf_n32
  decide +kernel
theorem mts : ∀ a, a < 100 → mits (a + 1) (a + 1) = 1056964608 := by
  unfold mits
  decide +kernel
theorem mit_P {P : UInt32 → Prop} {D E : Nat → Nat} (h : ∀ i, P (mits (D i) (E i))) : ∀ (n i : Nat) (f r : UInt32), P f → P (mit D E n i f r) := by
  intro n
  induction n with
  | zero => intro i f r hf; exact hf
  | succ n ih =>
    intro i f r hf
    by_cases h2 : FP.fcmp (mfar (mits (D i) (E i))) r = some .gt
    · have e : mit D E (n + 1) i f r = _ := xi_t h2
      rw [e]
      exact ih _ _ _ (h i)
    · have e : mit D E (n + 1) i f r = _ := xi_f h2
      rw [e]
      exact ih _ _ _ hf
theorem dpa_in {σ : xS} (hI : MI σ) {p : Nat} (hp : p < σ 16 0) (i : Nat) : 1 ≤ dpa σ p i ∧ dpa σ p i ≤ 100 := by
  have hP := hI.P
  have h17 := hI.w17 (p := p) (by omega)
  have h17' := hI.w17' hp
  unfold dpa
  split
  · rename_i h
    exact ⟨hI.w18' hp h, hI.w18 (by omega)⟩
  · exact ⟨hI.w18' hp (by omega), hI.w18 (by omega)⟩
theorem mtv {σ : xS} (hI : MI σ) {a b : Nat} (ha : a < σ 16 0) (hb : b < σ 16 0) : t_mitre σ (nI a) (nI b) = 0 ∧ vf_n32 (FP.fmul (v_mitre σ (nI a) (nI b)) 1166016512) ∧ 0 < FP.f2i (FP.fmul (v_mitre σ (nI a) (nI b)) 1166016512) ∧ FP.f2i (FP.fmul (v_mitre σ (nI a) (nI b)) 1166016512) < 4096 := by
  have hP := hI.P
  have t0 : t_mitre σ (nI a) (nI b) = 0 := by
    unfold t_mitre
    exact xi_t ⟨xin_n ha (by omega), xin_n hb (by omega)⟩
  refine ⟨t0, ?_⟩
  unfold v_mitre
  rw [xi_t t0, nI_cl (by omega), nI_cl (by omega)]
  refine mit_P (P := fun v => vf_n32 (FP.fmul v 1166016512) ∧ 0 < FP.f2i (FP.fmul v 1166016512) ∧ FP.f2i (FP.fmul v 1166016512) < 4096) (fun i => ?_) _ _ _ _ ⟨mtk5.1, by rw [mtk5.2]; decide, by rw [mtk5.2]; decide⟩
  obtain ⟨q1, q2⟩ := dpa_in hI ha i
  obtain ⟨q3, q4⟩ := dpa_in hI hb i
  have := mtk (dpa σ a i - 1) (by omega) (dpa σ b i - 1) (by omega)
  rw [Nat.sub_add_cancel q1, Nat.sub_add_cancel q3] at this
  exact this
theorem mtv5 {σ : xS} (hI : MI σ) {a : Nat} (ha : a < σ 16 0) : FP.f2i (FP.fmul (v_mitre σ (nI a) (nI a)) 1166016512) = 2048 := by
  have hP := hI.P
  have t0 := (mtv hI ha ha).1
  unfold v_mitre
  rw [xi_t t0, nI_cl (by omega)]
  have : mit (dpa σ a) (dpa σ a) (if σ 17 a ≤ σ 17 a then σ 17 a else σ 17 a) 0 1056964608 3212836864 = 1056964608 := by
    refine mit_P (P := fun v => v = 1056964608) (fun i => ?_) _ _ _ _ rfl
    obtain ⟨q1, q2⟩ := dpa_in hI ha i
    have := mts (dpa σ a i - 1) (by omega)
    rw [Nat.sub_add_cancel q1] at this
    exact this
  rw [this]
  exact mtk5.2
/-! how many: counting by taking the lowest away -/
theorem low_bit : ∀ n : Nat, 0 < n → ∃ j, n.testBit j = true ∧ ∀ i, (n &&& (n - 1)).testBit i = (n.testBit i && decide (i ≠ j)) := by
  intro n
  induction n using Nat.strongRecOn with
  | _ n ih =>
    intro h0
    by_cases hp : n % 2 = 1
    · refine ⟨0, by simp [hp], fun i => ?_⟩
      cases i with
      | zero =>
        rw [Nat.testBit_and]
        have : (n - 1).testBit 0 = false := by rw [Nat.testBit_zero]; simp; omega
        rw [this]
        simp
      | succ i =>
        rw [Nat.testBit_and, Nat.testBit_succ, Nat.testBit_succ, show (n - 1) / 2 = n / 2 by omega]
        simp
    · obtain ⟨j, h1, h2⟩ := ih (n / 2) (by omega) (by omega)
      refine ⟨j + 1, by rw [Nat.testBit_succ]; exact h1, fun i => ?_⟩
      cases i with
      | zero =>
        rw [Nat.testBit_and, Nat.testBit_zero]
        have : decide (n % 2 = 1) = false := decide_eq_false hp
        rw [this]
        simp
      | succ i =>
        have e := h2 i
        rw [Nat.testBit_and] at e
        rw [Nat.testBit_and, Nat.testBit_succ, Nat.testBit_succ, show (n - 1) / 2 = n / 2 - 1 by omega, e]
        have : decide (i + 1 ≠ j + 1) = decide (i ≠ j) := by
          by_cases q : i = j
          · simp [q]
          · simp [q]
        rw [this]
theorem bt_n {y : Int64} {j : Nat} : bt y j ↔ y.toBitVec.toNat.testBit j = true := by
  unfold bt
  rw [BitVec.testBit_toNat]
theorem bt_low {y : Int64} (h : ¬ y = 0) : ∃ j, bt y j ∧ ∀ i, bt (y &&& (y - 1)) i ↔ bt y i ∧ i ≠ j := by
  have h0 : 0 < y.toBitVec.toNat := by
    refine Nat.pos_of_ne_zero (fun q => h ?_)
    refine Int64.toBitVec_inj.mp ?_
    exact BitVec.eq_of_toNat_eq q
  obtain ⟨j, h1, h2⟩ := low_bit _ h0
  have e : (y &&& (y - 1)).toBitVec.toNat = y.toBitVec.toNat &&& (y.toBitVec.toNat - 1) := by
    rw [Int64.toBitVec_and, BitVec.toNat_and, Int64.toBitVec_sub]
    congr 1
    rw [BitVec.toNat_sub, show (1 : Int64).toBitVec.toNat = 1 from rfl]
    have := y.toBitVec.isLt
    omega
  refine ⟨j, bt_n.mpr h1, fun i => ?_⟩
  rw [bt_n, e, h2, bt_n]
  simp
theorem cnt_0 {P : Nat → Prop} : ∀ n, (∀ i, i < n → ¬ P i) → cnt P n = 0 := by
  intro n
  induction n with
  | zero => intro _; rfl
  | succ n ih =>
    intro h
    show cnt P n + xi (P n) 1 0 = 0
    rw [ih (fun i hi => h i (by omega)), xi_f (h n (by omega))]
theorem cnt_part {F L : Nat → Prop} : ∀ n, (∀ i, i < n → F i → L i) → cnt L n = cnt F n + cnt (fun i => L i ∧ ¬ F i) n := by
  intro n
  induction n with
  | zero => intro _; rfl
  | succ n ih =>
    intro h
    show cnt L n + xi (L n) 1 0 = cnt F n + xi (F n) 1 0 + (cnt (fun i => L i ∧ ¬ F i) n + xi (L n ∧ ¬ F n) 1 0)
    rw [ih (fun i hi => h i (by omega))]
    by_cases hf : F n
    · rw [xi_t hf, xi_t (h n (by omega) hf), xi_f (fun q => q.2 hf)]
      omega
    · by_cases hl : L n
      · rw [xi_f hf, xi_t hl, xi_t ⟨hl, hf⟩]
        omega
      · rw [xi_f hf, xi_f hl, xi_f (fun q => hl q.1)]
        omega
theorem npn_b : ∀ (n c : Nat) (L : Nat → Prop), (∀ i, L i → c ≤ i) → c + n = 48 → (cnt L 48 + 3) / 4 ≤ npn n c L ∧ npn n c L ≤ cnt L 48 := by
  intro n
  induction n with
  | zero =>
    intro c L h1 h2
    have : cnt L 48 = 0 := cnt_0 48 (fun i hi q => by have := h1 i q; omega)
    rw [this]
    exact ⟨Nat.le_refl 0, Nat.le_refl 0⟩
  | succ n ih =>
    intro c L h1 h2
    by_cases hc : L c
    · have e : npn (n + 1) c L = (cnt (Rch L c) 48 + 3) / 4 + npn n (c + 1) (fun i => L i ∧ ¬ Rch L c i) := by
        show xi (L c) ((cnt (Rch L c) 48 + 3) / 4) 0 + npn n (c + 1) (xi (L c) (fun i => L i ∧ ¬ Rch L c i) L) = _
        rw [xi_t hc, xi_t hc]
      have hFL : ∀ i, Rch L c i → L i := fun i hi => hi L hc (fun _ _ _ _ q => q)
      have e2 := cnt_part (F := Rch L c) (L := L) 48 (fun i _ => hFL i)
      obtain ⟨q1, q2⟩ := ih (c + 1) (fun i => L i ∧ ¬ Rch L c i) (fun i hi => by
        have a := h1 i hi.1
        have b : i ≠ c := fun q => hi.2 (by rw [q]; exact Rch.rfl)
        omega) (by omega)
      rw [e, e2]
      omega
    · have e : npn (n + 1) c L = npn n (c + 1) L := by
        show xi (L c) ((cnt (Rch L c) 48 + 3) / 4) 0 + npn n (c + 1) (xi (L c) (fun i => L i ∧ ¬ Rch L c i) L) = _
        rw [xi_f hc, xi_f hc, Nat.zero_add]
      rw [e]
      exact ih (c + 1) L (fun i hi => by
        have a := h1 i hi
        have b : i ≠ c := fun q => hc (by rw [← q]; exact hi)
        omega) (by omega)
theorem pins_b (y : Int64) : ∃ p, v_pins y = nI p ∧ (cnt (bt y) 48 + 3) / 4 ≤ p ∧ p ≤ cnt (bt y) 48 := by
  refine ⟨_, rfl, ?_⟩
  have e : cnt (bt y) 48 = cnt (fun c => c < 48 ∧ bt y c) 48 := cnt_cg 48 (fun i hi => ⟨fun q => ⟨hi, q⟩, fun q => q.2⟩)
  rw [e]
  exact npn_b 48 0 _ (fun i _ => Nat.zero_le _) rfl
