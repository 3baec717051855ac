/-! the class's calls: text -/
theorem xby_w : ∀ (p : Fin 4) (j : Fin 8), xby p.1 j.1 = wby p.1 j.1 := by decide +kernel
theorem xby_4 : ∀ j : Fin 2, xby 4 j.1 = 109 := by decide +kernel
theorem xby_5 : ∀ j : Fin 8, xby 5 j.1 = wby 4 j.1 ∧ xby 6 j.1 = wby 5 j.1 := by decide +kernel
theorem xlen_w : ∀ p : Fin 4, xLen.getD p.1 0 = wdw p.1 := by decide +kernel
def gmm (p k j : Nat) : Nat := if j < wdw p + 1 + dgw k then (if j < wdw p + 1 then (if j = wdw p then 32 else (if j < 0 then 0 else xby p (j - 0))) else dgt k (j - (wdw p + 1))) else xby 4 (j - (wdw p + 1 + dgw k))
theorem wdw_46 (p : Nat) : wdw p = 4 ∨ wdw p = 6 := by unfold wdw; split; exact Or.inl rfl; exact Or.inr rfl
theorem dgw_12 (k : Nat) : dgw k = 1 ∨ dgw k = 2 := by unfold dgw; split; exact Or.inl rfl; exact Or.inr rfl
theorem gmm_ok {p k d c j : Nat} (hp : p < 4) (hj : j < wdw p + 1 + dgw k + 2) : gmm p k j = txc p k d c j := by
  have hW := wdw_46 p
  have hD := dgw_12 k
  unfold gmm txc
  by_cases c1 : j < wdw p
  · rw [if_pos (by omega), if_pos (by omega), if_neg (by omega), if_neg (Nat.not_lt_zero j), if_pos c1, Nat.sub_zero]
    exact xby_w ⟨p, hp⟩ ⟨j, by omega⟩
  · rw [if_neg c1]
    by_cases c2 : j = wdw p
    · rw [if_pos (by omega), if_pos (by omega), if_pos c2, if_pos c2]
    · rw [if_neg c2, if_neg c2]
      by_cases c3 : j < wdw p + 1 + dgw k
      · rw [if_pos c3, if_neg (by omega), if_pos c3]
      · rw [if_neg c3, if_neg c3, if_pos (by omega)]
        exact xby_4 ⟨j - (wdw p + 1 + dgw k), by omega⟩
theorem txc_d {p k c j : Nat} (h1 : wdw p + 1 + dgw k + 2 ≤ j) (h2 : j < wdw p + 1 + dgw k + 2 + 4) : txc p k 1 c j = wby 4 (j - (wdw p + 1 + dgw k + 2)) := by
  have hD := dgw_12 k
  unfold txc
  rw [if_neg (by omega), if_neg (by omega), if_neg (by omega), if_neg (by omega), if_pos ⟨rfl, by omega⟩]
  congr 1
  omega
theorem txc_c {p k d j : Nat} (hd : d ≤ 1) (h1 : wdw p + 1 + dgw k + 2 + 4 * d ≤ j) (h2 : j < wdw p + 1 + dgw k + 2 + 4 * d + 8) : txc p k d 1 j = wby 5 (j - (wdw p + 1 + dgw k + 2 + 4 * d)) := by
  have hD := dgw_12 k
  unfold txc
  rw [if_neg (by omega), if_neg (by omega), if_neg (by omega), if_neg (by omega), if_neg (by omega), if_pos ⟨rfl, by omega⟩]
  congr 1
  omega
theorem txc_z {p k d c j : Nat} (hd : d ≤ 1) (hc : c ≤ 1) (h : wdw p + 1 + dgw k + 2 + 4 * d + 8 * c ≤ j) : txc p k d c j = 0 := by
  have hD := dgw_12 k
  unfold txc
  rw [if_neg (by omega), if_neg (by omega), if_neg (by omega), if_neg (by omega), if_neg (by omega), if_neg (by omega)]
section
variable {κ : Nat → Nat} {R : xR → xH → Prop} {A σ τ : xS} {h0 ah : xH} {b : Nat}
theorem sp_sbInit (hb : ah b = some (.inr (0, [.null, .int 0, .int 0, .int 0]))) (hR : ∀ v, ah v = none → R (.inl none) (xup (xup ah v (.inl (2, 16, .inl fun _ => 0))) b (.inr (0, [.ref v, .int 0, .int 0, .int 0])))) : xm κ 104 [.ref b] ah R := by
  rw [en104, e104_0, e104_1, e104_3]
  refine ⟨⟨by decide, trivial, by decide, by decide⟩, ?_⟩
  rw [en111]
  simp (disch := omega) only [e111_0, e111_0n, e111_1, e111_4, e111_7, e111_10, e111_10n, e111_11, xKv, xK0, xKx, xKHv, xKH0, xk_none, xk_i, xk_f, xk_l, xk_r, xk_n, xc_i, xc_f, xc_l, xc_d, xc_r, xc_n, xo_some, List.map_cons, List.map_nil, List.sum_cons, List.sum_nil, xnzn, xpn0, xpn1, xpnb, xpnn, i10, i00, true_imp_iff, false_imp_iff, not_true_eq_false, not_false_eq_true, true_and, and_true, implies_true, xnz0, xnz1, xnzb, xfz0, xfz1, xfzb, Option.isSome_some, if_true, if_false, xbF, xbT, and_false, false_and, Nat.zero_le, Nat.reduceEqDiff, Nat.reduceLeDiff, Nat.reduceAdd, Nat.reduceSub, xiT, xiF]
  rw [e111_12]
  have e16 : (16 : Int32).toNatClampNeg = 16 := by decide
  rw [e16]
  refine ⟨⟨by decide, by decide⟩, by decide, by decide, fun v hv => ?_⟩
  have hbv : b ≠ v := xis_ne hb hv
  have h1 : xup ah v (.inl (2, 16, .inl fun _ => 0)) b = some (.inr (0, [.null, .int 0, .int 0, .int 0])) := by rw [xup_ne _ _ hbv]; exact hb
  have f0 : (xfld (xup ah v (.inl (2, 16, .inl fun _ => 0))) b 0 0).isSome = true := by rw [xfld_of h1]; rfl
  have e1 : xput (xup ah v (.inl (2, 16, .inl fun _ => 0))) b 0 (.ref v) = xup (xup ah v (.inl (2, 16, .inl fun _ => 0))) b (.inr (0, [.ref v, .int 0, .int 0, .int 0])) := xput_of h1
  have h2 : xup (xup ah v (.inl (2, 16, .inl fun _ => 0))) b (.inr (0, [.ref v, .int 0, .int 0, .int 0])) b = some (.inr (0, [.ref v, .int 0, .int 0, .int 0])) := xup_self _ _ _
  have f1 : (xfld (xup (xup ah v (.inl (2, 16, .inl fun _ => 0))) b (.inr (0, [.ref v, .int 0, .int 0, .int 0]))) b 0 1).isSome = true := by rw [xfld_of h2]; rfl
  have e2 : xput (xup (xup ah v (.inl (2, 16, .inl fun _ => 0))) b (.inr (0, [.ref v, .int 0, .int 0, .int 0]))) b 1 (.int 0) = xup (xup ah v (.inl (2, 16, .inl fun _ => 0))) b (.inr (0, [.ref v, .int 0, .int 0, .int 0])) := by rw [xput_of h2, xup_xup]; rfl
  have nb : narrow .byte (.int 0) = .int 0 := rfl
  have fb : fits .byte (.int 0) = true := rfl
  simp (disch := omega) only [e111_14, e111_17, e111_17n, e111_18, e111_19, e111_22, e111_25, e111_25n, e111_26, e111_30, e111_33, e111_33n, e111_34, e111_35, e111_38, xKv, xK0, xKx, xKHv, xKH0, xk_none, xk_i, xk_f, xk_l, xk_r, xk_n, xc_i, xc_f, xc_l, xc_d, xc_r, xc_n, xo_some, List.map_cons, List.map_nil, List.sum_cons, List.sum_nil, xnzn, xpn0, xpn1, xpnb, xpnn, i10, i00, true_imp_iff, false_imp_iff, not_true_eq_false, not_false_eq_true, true_and, and_true, implies_true, xnz0, xnz1, xnzb, xfz0, xfz1, xfzb, Option.isSome_some, if_true, if_false, xbF, xbT, and_false, false_and, Nat.zero_le, Nat.reduceEqDiff, Nat.reduceLeDiff, Nat.reduceAdd, Nat.reduceSub, xiT, xiF, f0, e1, f1, e2, nb, fb]
  show xW _ _ _ _
  rw [e104_6]
  exact hR v hv
theorem sp_words (hK : KI κ) (hS : KS κ) (h : CR κ A σ τ h0 ah) (hI : MI σ) {u : Nat} (hu : cU σ τ 19 u) (hu2 : u < 720) (hdry : ndu σ u ≤ τ 30 u ↔ σ 13 u = 1) (ht : τ 30 u < 10000)
    (hR : ∀ b v N T G ah', BS ah ah' b v N T G → T ≤ 34 → (∀ j, j < T → G j = txc (σ 9 u) (σ 10 u) (σ 13 u) (σ 14 u) j) → (∀ j, T ≤ j → txc (σ 9 u) (σ 10 u) (σ 13 u) (σ 14 u) j = 0) → R (.inl (some (.ref b))) ah') : xm κ 5 [.ref (A 19 u)] ah R := by
  have hc := hI.c hu2
  have hcell : ah (A 19 u) = some (ccell κ (σ 9 u) (σ 10 u) (σ 11 u) (σ 14 u) (σ 15 u) (τ 30 u)) := h.1.1 19 u hu
  have hW := wdw_46 (σ 9 u)
  have hD := dgw_12 (σ 10 u)
  have hp : σ 9 u < 4 := by omega
  have hlw : xLen.getD (σ 9 u) 0 = wdw (σ 9 u) := xlen_w ⟨σ 9 u, hp⟩
  have hdry' : need (σ 9 u) * σ 10 u ≤ τ 30 u ↔ σ 13 u = 1 := hdry
  clear hdry
  generalize σ 9 u = p at *
  generalize σ 10 u = k at *
  rw [en5, e5_0]
  refine ⟨by decide, by decide, fun b hb => ?_⟩
  rw [e5_3, e5_4]
  refine ⟨⟨show (1 + 0 : Nat) ≤ 8 from by decide, trivial, by decide, by decide⟩, sp_sbInit (xup_self _ _ _) (fun v hv => ?_)⟩
  have hbv : b ≠ v := xis_ne (xup_self _ _ _) hv
  have hv0 : ah v = none := by rw [xup_ne _ _ (fun q => hbv q.symm)] at hv; exact hv
  have B0 : BS ah (xup (xup (xup ah b (.inr (0, [.null, .int 0, .int 0, .int 0]))) v (.inl (2, 16, .inl fun _ => 0))) b (.inr (0, [.ref v, .int 0, .int 0, .int 0]))) b v 16 0 (fun _ => 0) := by
    refine ⟨xup_self _ _ _, ⟨fun _ => 0, by rw [xup_ne _ _ (fun q => hbv q.symm), xup_self], fun j hj => by omega, fun _ => rfl⟩, by decide, Or.inl rfl, hbv, hb, hv0, ?_⟩
    exact ((Ext.up (fun _ _ h => h) hb).up hv0).up hb
  have fx : ∀ {ah' : xH}, Ext ah ah' → ah' (A 19 u) = some (ccell κ p k (σ 11 u) (σ 14 u) (σ 15 u) (τ 30 u)) := fun he => he _ _ hcell
  show xW _ _ _ _
  have f0 : xfld (xup (xup (xup ah b (.inr (0, [.null, .int 0, .int 0, .int 0]))) v (.inl (2, 16, .inl fun _ => 0))) b (.inr (0, [.ref v, .int 0, .int 0, .int 0]))) (A 19 u) 2 0 = some (.ref (κ p)) := xfld_of (fx B0.2.2.2.2.2.2.2)
  rw [e5_7, xk_r, e5_8, e5_9, e5_10, f0, xo_some, e5_13]
  refine ⟨p, hp, by rw [Nat.zero_add], ?_⟩
  rw [e5_16]
  refine ⟨⟨by decide, ⟨_, B0.1⟩, by decide, by decide⟩, sp_appS hS B0 (q := p) (by omega) (by omega) (fun v1 N1 ah1 B1 => ?_)⟩
  rw [hlw] at B1
  show xW _ _ _ _
  rw [e5_19, e5_21]
  refine ⟨⟨by decide, ⟨_, B1.1⟩, by decide, by decide⟩, sp_appC (c := 32) B1 (by omega) (by decide) (fun v2 N2 ah2 B2 => ?_)⟩
  have f1 : xfld ah2 (A 19 u) 2 1 = some (.int (nI k)) := xfld_of (fx B2.2.2.2.2.2.2.2)
  show xW _ _ _ _
  rw [e5_24, e5_25, f1, xo_some, e5_28]
  refine ⟨⟨by decide, ⟨_, B2.1⟩, by decide, by decide⟩, sp_appI B2 hc.2.1 (by omega) (fun v3 N3 ah3 B3 => ?_)⟩
  show xW _ _ _ _
  rw [e5_31, e5_33]
  refine ⟨⟨by decide, ⟨_, B3.1⟩, by decide, by decide⟩, sp_appS hS B3 (q := 4) (by decide) (by show _ + 2 ≤ 34; omega) (fun v4 N4 ah4 B4 => ?_)⟩
  show xW _ _ _ _
  have B4' : BS ah ah4 b v4 N4 (wdw p + 1 + dgw k + 2) (gmm p k) := by
    have e : 0 + wdw p + 1 + dgw k + xLen.getD 4 0 = wdw p + 1 + dgw k + 2 := by
      show 0 + wdw p + 1 + dgw k + 2 = _
      omega
    rw [e] at B4
    simp only [Nat.zero_add] at B4
    exact B4
  rw [e5_36, e5_37, e5_38]
  have hc4 := fx B4'.2.2.2.2.2.2.2
  refine ⟨⟨by decide, ⟨_, hc4⟩⟩, (sp_isDry hK hc4 hp hc.2.1 (by omega)).mpr ?_⟩
  have f3 : ∀ {ah' : xH}, Ext ah ah' → xfld ah' (A 19 u) 2 3 = some (.int (nI (σ 14 u))) := fun he => xfld_of (fx he)
  have hgm : ∀ j, j < wdw p + 1 + dgw k + 2 → gmm p k j = txc p k (σ 13 u) (σ 14 u) j := fun j hj => gmm_ok hp hj
  by_cases q13 : σ 13 u = 1
  · rw [xb_t (hdry'.mpr q13)]
    rw [q13] at hgm hR
    show xW _ _ _ _
    rw [e5_41]
    refine ⟨fun q => absurd q (by decide), fun _ => ?_⟩
    rw [e5_44, e5_45, e5_47]
    refine ⟨⟨by decide, ⟨_, B4'.1⟩, by decide, by decide⟩, sp_appS hS B4' (q := 5) (by decide) (by show _ + 4 ≤ 34; omega) (fun v5 N5 ah5 B5 => ?_)⟩
    have he5 := B5.2.2.2.2.2.2.2
    have hG5 : ∀ j, j < wdw p + 1 + dgw k + 2 + 4 → (if j < wdw p + 1 + dgw k + 2 then gmm p k j else xby 5 (j - (wdw p + 1 + dgw k + 2))) = txc p k 1 (σ 14 u) j := fun j hj => by
      by_cases e : j < wdw p + 1 + dgw k + 2
      · rw [if_pos e]; exact hgm j e
      · rw [if_neg e, txc_d (by omega) hj]
        exact (xby_5 ⟨j - (wdw p + 1 + dgw k + 2), by omega⟩).1
    show xW _ _ _ _
    rw [e5_50, e5_51, e5_52, f3 he5, xo_some, e5_55]
    by_cases q14 : σ 14 u = 0
    · rw [q14] at hG5 hR ⊢
      refine ⟨fun _ => ?_, fun q => absurd rfl q⟩
      rw [e5_65, e5_66]
      exact hR b v5 N5 _ _ ah5 B5 (by show _ + 4 ≤ 34; omega) hG5 (fun j hj => txc_z (by decide) (by decide) (by have : wdw p + 1 + dgw k + 2 + 4 ≤ j := hj; omega))
    · have q14' : σ 14 u = 1 := by omega
      rw [q14'] at hG5 hR ⊢
      refine ⟨fun q => absurd q (by decide), fun _ => ?_⟩
      rw [e5_58, e5_59, e5_61]
      refine ⟨⟨by decide, ⟨_, B5.1⟩, by decide, by decide⟩, sp_appS hS B5 (q := 6) (by decide) (by show _ + 4 + 8 ≤ 34; omega) (fun v6 N6 ah6 B6 => ?_)⟩
      show xW _ _ _ _
      rw [e5_64, e5_65, e5_66]
      refine hR b v6 N6 _ _ ah6 B6 (by show _ + 4 + 8 ≤ 34; omega) (fun j hj => ?_) (fun j hj => txc_z (by decide) (by decide) (by have : wdw p + 1 + dgw k + 2 + 4 + 8 ≤ j := hj; omega))
      have hj' : j < wdw p + 1 + dgw k + 2 + 4 + 8 := hj
      show (if j < wdw p + 1 + dgw k + 2 + 4 then (if j < wdw p + 1 + dgw k + 2 then gmm p k j else xby 5 (j - (wdw p + 1 + dgw k + 2))) else xby 6 (j - (wdw p + 1 + dgw k + 2 + 4))) = _
      by_cases e : j < wdw p + 1 + dgw k + 2 + 4
      · rw [if_pos e]; exact hG5 j e
      · rw [if_neg e, txc_c (by decide) (by omega) (by omega)]
        exact (xby_5 ⟨j - (wdw p + 1 + dgw k + 2 + 4), by omega⟩).2
  · have q13' : σ 13 u = 0 := by omega
    rw [xb_f (fun q => q13 (hdry'.mp q))]
    rw [q13'] at hgm hR
    show xW _ _ _ _
    rw [e5_41]
    refine ⟨fun _ => ?_, fun q => absurd rfl q⟩
    have he4 := B4'.2.2.2.2.2.2.2
    rw [e5_51, e5_52, f3 he4, xo_some, e5_55]
    by_cases q14 : σ 14 u = 0
    · rw [q14] at hgm hR ⊢
      refine ⟨fun _ => ?_, fun q => absurd rfl q⟩
      rw [e5_65, e5_66]
      exact hR b v4 N4 _ _ ah4 B4' (by omega) hgm (fun j hj => txc_z (by decide) (by decide) (by omega))
    · have q14' : σ 14 u = 1 := by omega
      rw [q14'] at hgm hR ⊢
      refine ⟨fun q => absurd q (by decide), fun _ => ?_⟩
      rw [e5_58, e5_59, e5_61]
      refine ⟨⟨by decide, ⟨_, B4'.1⟩, by decide, by decide⟩, sp_appS hS B4' (q := 6) (by decide) (by show _ + 8 ≤ 34; omega) (fun v6 N6 ah6 B6 => ?_)⟩
      show xW _ _ _ _
      rw [e5_64, e5_65, e5_66]
      refine hR b v6 N6 _ _ ah6 B6 (by show _ + 8 ≤ 34; omega) (fun j hj => ?_) (fun j hj => txc_z (by decide) (by decide) (by have : wdw p + 1 + dgw k + 2 + 8 ≤ j := hj; omega))
      have hj' : j < wdw p + 1 + dgw k + 2 + 8 := hj
      show (if j < wdw p + 1 + dgw k + 2 then gmm p k j else xby 6 (j - (wdw p + 1 + dgw k + 2))) = _
      by_cases e : j < wdw p + 1 + dgw k + 2
      · rw [if_pos e]; exact hgm j e
      · rw [if_neg e, txc_c (by decide) (by omega) (by omega)]
        exact (xby_5 ⟨j - (wdw p + 1 + dgw k + 2), by omega⟩).2
theorem wby_128 (q i : Nat) (hq : q < 6) : wby q i < 128 := by
  have h : ∀ (p : Fin 6) (j : Fin 8), wby p.1 j.1 < 128 := by decide +kernel
  by_cases h2 : i < 8
  · exact h ⟨q, hq⟩ ⟨i, h2⟩
  · have : q = 0 ∨ q = 1 ∨ q = 2 ∨ q = 3 ∨ q = 4 ∨ q = 5 := by omega
    have e : wby q i = 0 := by
      obtain ⟨n, rfl⟩ : ∃ n, i = n + 8 := ⟨i - 8, by omega⟩
      rcases this with rfl | rfl | rfl | rfl | rfl | rfl <;> rfl
    omega
theorem txc_128 {p k d c j : Nat} (hp : p ≤ 3) (hk : k ≤ 20) : txc p k d c j < 128 := by
  have h1 := wby_128 p j (by omega)
  unfold txc dgt
  repeat' split
  all_goals first | omega | exact wby_128 _ _ (by omega)
theorem sp_c_text (hK : KI κ) (hS : KS κ) (h : CR κ A σ τ h0 ah) (hI : MI σ) (hL : LK σ τ) {a b c d : Int32} (hR : t_text σ a b c d = 0 → Ny κ A σ τ h0 R (some (.int (v_text σ a b c d)))) (h1 : t_text σ a b c d = 1 → R (.inr 2) ah) : xm κ 65 [.ref (A 0 0), .int a, .int b, .int c, .int d] ah R := by
  have hx10 : xis ah (A 0 0) 10 = True := xis_of h.x
  by_cases ha : xisC σ a b c
  · obtain ⟨i, j, k, rfl, rfl, rfl, hi, hi2, hj, hj2, hk, hk2⟩ := xisC_of hI ha
    obtain ⟨hsv, e1, e2⟩ := sv_i hI hi hj
    have hcu := cU19 (τ := τ) hI hsv hk
    have hco := h.coat hI hsv hk
    have hl := hL.1 (12 * i + j) k hsv hk
    have hc := hI.c (c := 6 * (12 * i + j) + k) (by omega)
    by_cases hd : d < 0
    · have ht : t_text σ (nI i) (nI j) (nI k) d = 1 := by unfold t_text; rw [xi_f (fun q => q.2 hd)]
      have l0 : ((0 : Int32) ≤ d) = False := eq_false (Int32.not_le.mpr hd)
      simp (disch := omega) only [e65_0, e65_0n, e65_1, e65_2, e65_3, e65_4, e65_7, e65_7n, e65_9, e65_11, e65_14, en65, xKv, xK0, xKx, xKHv, xKH0, xk_none, xk_i, xk_f, xk_l, xk_r, xk_n, xc_i, xc_f, xc_l, xc_d, xc_r, xc_n, xo_some, List.map_cons, List.map_nil, List.sum_cons, List.sum_nil, xnzn, xpn0, xpn1, xpnb, xpnn, i10, i00, true_imp_iff, false_imp_iff, not_true_eq_false, not_false_eq_true, true_and, and_true, implies_true, xnz0, xnz1, xnzb, xfz0, xfz1, xfzb, Option.isSome_some, if_true, if_false, xbF, xbT, and_false, false_and, Nat.zero_le, Nat.reduceEqDiff, Nat.reduceLeDiff, Nat.reduceAdd, Nat.reduceSub, xiT, xiF, pk_mul, nI_add, Nat.add_sub_cancel, lad0, leq0, lle0, lge0, llt0, lgt0, leq1, lle1, lge1, llt1, lgt1, lad1, lsu1, leq2, lle2, lge2, llt2, lgt2, lmu2, lmv2, lad2, lsu2, ldi2, leq3, lle3, lge3, llt3, lgt3, lmu3, lmv3, lad3, lsu3, ldi3, leq4, lle4, lge4, llt4, lgt4, lmu4, lmv4, lad4, lsu4, ldi4, leq5, lle5, lge5, llt5, lgt5, lmu5, lmv5, lad5, lsu5, ldi5, leq6, lle6, lge6, llt6, lgt6, lmu6, lmv6, lad6, lsu6, ldi6, leq8, lle8, lge8, llt8, lgt8, lmu8, lmv8, lad8, lsu8, ldi8, leq9, lle9, lge9, llt9, lgt9, lmu9, lmv9, lad9, lsu9, ldi9, leq10, lle10, lge10, llt10, lgt10, lmu10, lmv10, lad10, lsu10, ldi10, leq12, lle12, lge12, llt12, lgt12, lmu12, lmv12, lad12, lsu12, ldi12, leq20, lle20, lge20, llt20, lgt20, lmu20, lmv20, lad20, lsu20, ldi20, leq25, lle25, lge25, llt25, lgt25, lmu25, lmv25, lad25, lsu25, ldi25, leq30, lle30, lge30, llt30, lgt30, lmu30, lmv30, lad30, lsu30, ldi30, leq48, lle48, lge48, llt48, lgt48, lmu48, lmv48, lad48, lsu48, ldi48, leq50, lle50, lge50, llt50, lgt50, lmu50, lmv50, lad50, lsu50, ldi50, leq99, lle99, lge99, llt99, lgt99, lmu99, lmv99, lad99, lsu99, ldi99, leq100, lle100, lge100, llt100, lgt100, lmu100, lmv100, lad100, lsu100, ldi100, leq2000, lle2000, lge2000, llt2000, lgt2000, lmu2000, lmv2000, lad2000, lsu2000, ldi2000, hx10, sp_cn1 h hI hi hj hk, l0]
      exact h1 ht
    · have ht : t_text σ (nI i) (nI j) (nI k) d = 0 := by unfold t_text; rw [xi_t ⟨ha, hd⟩]
      obtain ⟨jd, hjd, rfl⟩ := nI_of hd
      have e : cat (nI i) (nI j) (nI k) = 6 * (12 * i + j) + k := by simp (disch := omega) only [cat, nI_cl]
      have hg := hR ht
      unfold v_text at hg
      rw [xi_t ht, e, nI_cl hjd] at hg
      have l0 : ((0 : Int32) ≤ nI jd) = True := eq_true (nI_pos' hjd)
      simp (disch := omega) only [e65_0, e65_0n, e65_1, e65_2, e65_3, e65_4, e65_7, e65_7n, e65_9, e65_11, e65_14, e65_24, e65_24n, en65, xKv, xK0, xKx, xKHv, xKH0, xk_none, xk_i, xk_f, xk_l, xk_r, xk_n, xc_i, xc_f, xc_l, xc_d, xc_r, xc_n, xo_some, List.map_cons, List.map_nil, List.sum_cons, List.sum_nil, xnzn, xpn0, xpn1, xpnb, xpnn, i10, i00, true_imp_iff, false_imp_iff, not_true_eq_false, not_false_eq_true, true_and, and_true, implies_true, xnz0, xnz1, xnzb, xfz0, xfz1, xfzb, Option.isSome_some, if_true, if_false, xbF, xbT, and_false, false_and, Nat.zero_le, Nat.reduceEqDiff, Nat.reduceLeDiff, Nat.reduceAdd, Nat.reduceSub, xiT, xiF, pk_mul, nI_add, Nat.add_sub_cancel, lad0, leq0, lle0, lge0, llt0, lgt0, leq1, lle1, lge1, llt1, lgt1, lad1, lsu1, leq2, lle2, lge2, llt2, lgt2, lmu2, lmv2, lad2, lsu2, ldi2, leq3, lle3, lge3, llt3, lgt3, lmu3, lmv3, lad3, lsu3, ldi3, leq4, lle4, lge4, llt4, lgt4, lmu4, lmv4, lad4, lsu4, ldi4, leq5, lle5, lge5, llt5, lgt5, lmu5, lmv5, lad5, lsu5, ldi5, leq6, lle6, lge6, llt6, lgt6, lmu6, lmv6, lad6, lsu6, ldi6, leq8, lle8, lge8, llt8, lgt8, lmu8, lmv8, lad8, lsu8, ldi8, leq9, lle9, lge9, llt9, lgt9, lmu9, lmv9, lad9, lsu9, ldi9, leq10, lle10, lge10, llt10, lgt10, lmu10, lmv10, lad10, lsu10, ldi10, leq12, lle12, lge12, llt12, lgt12, lmu12, lmv12, lad12, lsu12, ldi12, leq20, lle20, lge20, llt20, lgt20, lmu20, lmv20, lad20, lsu20, ldi20, leq25, lle25, lge25, llt25, lgt25, lmu25, lmv25, lad25, lsu25, ldi25, leq30, lle30, lge30, llt30, lgt30, lmu30, lmv30, lad30, lsu30, ldi30, leq48, lle48, lge48, llt48, lgt48, lmu48, lmv48, lad48, lsu48, ldi48, leq50, lle50, lge50, llt50, lgt50, lmu50, lmv50, lad50, lsu50, ldi50, leq99, lle99, lge99, llt99, lgt99, lmu99, lmv99, lad99, lsu99, ldi99, leq100, lle100, lge100, llt100, lgt100, lmu100, lmv100, lad100, lsu100, ldi100, leq2000, lle2000, lge2000, llt2000, lgt2000, lmu2000, lmv2000, lad2000, lsu2000, ldi2000, hx10, sp_cn1 h hI hi hj hk, l0]
      rw [e65_26]
      refine ⟨⟨by decide, ⟨_, hco⟩, by decide, by decide⟩, sp_words hK hS h hI hcu (by omega) hl.1 hl.2.2 (fun b v N T G ah' hB hT hG hZ => ?_)⟩
      have hxb : xis ah' b 0 = True := xis_of hB.1
      have hfin := hg A τ ah' (h.ext hB.2.2.2.2.2.2.2) hL (by omega) rfl
      have c128 := txc_128 (p := σ 9 (6 * (12 * i + j) + k)) (k := σ 10 (6 * (12 * i + j) + k)) (d := σ 13 (6 * (12 * i + j) + k)) (c := σ 14 (6 * (12 * i + j) + k)) (j := jd) hc.1 hc.2.1
      show xW _ _ _ _
      by_cases q : jd < T
      · have eg := hG jd q
        have xn := xnc (c := G jd) (by omega)
        rw [← eg] at hfin c128
        simp (disch := omega) only [e65_29, e65_29n, e65_31, e65_33, e65_33n, e65_35, e65_38, e65_41, e65_41n, e65_43, e65_45, e65_48, e65_51, e65_52, xKv, xK0, xKx, xKHv, xKH0, xk_none, xk_i, xk_f, xk_l, xk_r, xk_n, xc_i, xc_f, xc_l, xc_d, xc_r, xc_n, xo_some, List.map_cons, List.map_nil, List.sum_cons, List.sum_nil, xnzn, xpn0, xpn1, xpnb, xpnn, i10, i00, true_imp_iff, false_imp_iff, not_true_eq_false, not_false_eq_true, true_and, and_true, implies_true, xnz0, xnz1, xnzb, xfz0, xfz1, xfzb, Option.isSome_some, if_true, if_false, xbF, xbT, and_false, false_and, Nat.zero_le, Nat.reduceEqDiff, Nat.reduceLeDiff, Nat.reduceAdd, Nat.reduceSub, xiT, xiF, pk_mul, nI_add, Nat.add_sub_cancel, lad0, leq0, lle0, lge0, llt0, lgt0, leq1, lle1, lge1, llt1, lgt1, lad1, lsu1, leq2, lle2, lge2, llt2, lgt2, lmu2, lmv2, lad2, lsu2, ldi2, leq3, lle3, lge3, llt3, lgt3, lmu3, lmv3, lad3, lsu3, ldi3, leq4, lle4, lge4, llt4, lgt4, lmu4, lmv4, lad4, lsu4, ldi4, leq5, lle5, lge5, llt5, lgt5, lmu5, lmv5, lad5, lsu5, ldi5, leq6, lle6, lge6, llt6, lgt6, lmu6, lmv6, lad6, lsu6, ldi6, leq8, lle8, lge8, llt8, lgt8, lmu8, lmv8, lad8, lsu8, ldi8, leq9, lle9, lge9, llt9, lgt9, lmu9, lmv9, lad9, lsu9, ldi9, leq10, lle10, lge10, llt10, lgt10, lmu10, lmv10, lad10, lsu10, ldi10, leq12, lle12, lge12, llt12, lgt12, lmu12, lmv12, lad12, lsu12, ldi12, leq20, lle20, lge20, llt20, lgt20, lmu20, lmv20, lad20, lsu20, ldi20, leq25, lle25, lge25, llt25, lgt25, lmu25, lmv25, lad25, lsu25, ldi25, leq30, lle30, lge30, llt30, lgt30, lmu30, lmv30, lad30, lsu30, ldi30, leq48, lle48, lge48, llt48, lgt48, lmu48, lmv48, lad48, lsu48, ldi48, leq50, lle50, lge50, llt50, lgt50, lmu50, lmv50, lad50, lsu50, ldi50, leq99, lle99, lge99, llt99, lgt99, lmu99, lmv99, lad99, lsu99, ldi99, leq100, lle100, lge100, llt100, lgt100, lmu100, lmv100, lad100, lsu100, ldi100, leq2000, lle2000, lge2000, llt2000, lgt2000, lmu2000, lmv2000, lad2000, lsu2000, ldi2000, hxb, sp_sblen hB, xle, leF, sp_sbchar hB q c128, xn]
        exact hfin
      · rw [hZ jd (by omega)] at hfin
        simp (disch := omega) only [e65_29, e65_29n, e65_31, e65_33, e65_33n, e65_35, e65_38, e65_41, e65_41n, e65_43, e65_45, e65_48, e65_51, e65_52, xKv, xK0, xKx, xKHv, xKH0, xk_none, xk_i, xk_f, xk_l, xk_r, xk_n, xc_i, xc_f, xc_l, xc_d, xc_r, xc_n, xo_some, List.map_cons, List.map_nil, List.sum_cons, List.sum_nil, xnzn, xpn0, xpn1, xpnb, xpnn, i10, i00, true_imp_iff, false_imp_iff, not_true_eq_false, not_false_eq_true, true_and, and_true, implies_true, xnz0, xnz1, xnzb, xfz0, xfz1, xfzb, Option.isSome_some, if_true, if_false, xbF, xbT, and_false, false_and, Nat.zero_le, Nat.reduceEqDiff, Nat.reduceLeDiff, Nat.reduceAdd, Nat.reduceSub, xiT, xiF, pk_mul, nI_add, Nat.add_sub_cancel, lad0, leq0, lle0, lge0, llt0, lgt0, leq1, lle1, lge1, llt1, lgt1, lad1, lsu1, leq2, lle2, lge2, llt2, lgt2, lmu2, lmv2, lad2, lsu2, ldi2, leq3, lle3, lge3, llt3, lgt3, lmu3, lmv3, lad3, lsu3, ldi3, leq4, lle4, lge4, llt4, lgt4, lmu4, lmv4, lad4, lsu4, ldi4, leq5, lle5, lge5, llt5, lgt5, lmu5, lmv5, lad5, lsu5, ldi5, leq6, lle6, lge6, llt6, lgt6, lmu6, lmv6, lad6, lsu6, ldi6, leq8, lle8, lge8, llt8, lgt8, lmu8, lmv8, lad8, lsu8, ldi8, leq9, lle9, lge9, llt9, lgt9, lmu9, lmv9, lad9, lsu9, ldi9, leq10, lle10, lge10, llt10, lgt10, lmu10, lmv10, lad10, lsu10, ldi10, leq12, lle12, lge12, llt12, lgt12, lmu12, lmv12, lad12, lsu12, ldi12, leq20, lle20, lge20, llt20, lgt20, lmu20, lmv20, lad20, lsu20, ldi20, leq25, lle25, lge25, llt25, lgt25, lmu25, lmv25, lad25, lsu25, ldi25, leq30, lle30, lge30, llt30, lgt30, lmu30, lmv30, lad30, lsu30, ldi30, leq48, lle48, lge48, llt48, lgt48, lmu48, lmv48, lad48, lsu48, ldi48, leq50, lle50, lge50, llt50, lgt50, lmu50, lmv50, lad50, lsu50, ldi50, leq99, lle99, lge99, llt99, lgt99, lmu99, lmv99, lad99, lsu99, ldi99, leq100, lle100, lge100, llt100, lgt100, lmu100, lmv100, lad100, lsu100, ldi100, leq2000, lle2000, lge2000, llt2000, lgt2000, lmu2000, lmv2000, lad2000, lsu2000, ldi2000, hxb, sp_sblen hB, xle, leT, xnc0]
        exact hfin
  · have ht : t_text σ a b c d = 1 := by unfold t_text; rw [xi_f (fun q => ha q.1)]
    simp (disch := omega) only [e65_0, e65_0n, e65_1, e65_2, e65_3, e65_4, e65_7, e65_7n, e65_9, e65_11, e65_14, en65, xKv, xK0, xKx, xKHv, xKH0, xk_none, xk_i, xk_f, xk_l, xk_r, xk_n, xc_i, xc_f, xc_l, xc_d, xc_r, xc_n, xo_some, List.map_cons, List.map_nil, List.sum_cons, List.sum_nil, xnzn, xpn0, xpn1, xpnb, xpnn, i10, i00, true_imp_iff, false_imp_iff, not_true_eq_false, not_false_eq_true, true_and, and_true, implies_true, xnz0, xnz1, xnzb, xfz0, xfz1, xfzb, Option.isSome_some, if_true, if_false, xbF, xbT, and_false, false_and, Nat.zero_le, Nat.reduceEqDiff, Nat.reduceLeDiff, Nat.reduceAdd, Nat.reduceSub, xiT, xiF, pk_mul, nI_add, Nat.add_sub_cancel, lad0, leq0, lle0, lge0, llt0, lgt0, leq1, lle1, lge1, llt1, lgt1, lad1, lsu1, leq2, lle2, lge2, llt2, lgt2, lmu2, lmv2, lad2, lsu2, ldi2, leq3, lle3, lge3, llt3, lgt3, lmu3, lmv3, lad3, lsu3, ldi3, leq4, lle4, lge4, llt4, lgt4, lmu4, lmv4, lad4, lsu4, ldi4, leq5, lle5, lge5, llt5, lgt5, lmu5, lmv5, lad5, lsu5, ldi5, leq6, lle6, lge6, llt6, lgt6, lmu6, lmv6, lad6, lsu6, ldi6, leq8, lle8, lge8, llt8, lgt8, lmu8, lmv8, lad8, lsu8, ldi8, leq9, lle9, lge9, llt9, lgt9, lmu9, lmv9, lad9, lsu9, ldi9, leq10, lle10, lge10, llt10, lgt10, lmu10, lmv10, lad10, lsu10, ldi10, leq12, lle12, lge12, llt12, lgt12, lmu12, lmv12, lad12, lsu12, ldi12, leq20, lle20, lge20, llt20, lgt20, lmu20, lmv20, lad20, lsu20, ldi20, leq25, lle25, lge25, llt25, lgt25, lmu25, lmv25, lad25, lsu25, ldi25, leq30, lle30, lge30, llt30, lgt30, lmu30, lmv30, lad30, lsu30, ldi30, leq48, lle48, lge48, llt48, lgt48, lmu48, lmv48, lad48, lsu48, ldi48, leq50, lle50, lge50, llt50, lgt50, lmu50, lmv50, lad50, lsu50, ldi50, leq99, lle99, lge99, llt99, lgt99, lmu99, lmv99, lad99, lsu99, ldi99, leq100, lle100, lge100, llt100, lgt100, lmu100, lmv100, lad100, lsu100, ldi100, leq2000, lle2000, lge2000, llt2000, lgt2000, lmu2000, lmv2000, lad2000, lsu2000, ldi2000, hx10, sp_cn0 h hI ha]
    exact h1 ht
end

