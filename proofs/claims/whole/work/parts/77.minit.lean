/-! the model's constructor -/
def mF0 : List Value := [.int 0, .int 0, .int 0, .int 0, .null, .null, .null, .null, .null, .null, .null, .null, .null, .null, .null, .null, .int 0, .null, .null, .null, .int 0, .null, .null, .null, .null, .null, .int 0]
/-- the state of a new object; the rows 22 and 23 hold 0 still -/
def s00 : xS := fun c _ => if c = 1 then 10 else if c = 22 ∨ c = 23 then 1 else 0
def s_init : xS := fun c i => if c = 1 ∧ i = 0 then 10 else 0
def PM (ad : Nat → Nat) (m : Nat) (cs : List Nat) (ah0 ah : xH) : Prop :=
  (∀ c, c < 27 → (xfld ah m 11 c).isSome = true) ∧ xfld ah m 11 26 = some (.int 0) ∧ (∀ c ∈ mScal, xfld ah m 11 c = some (.int (nI (if c = 1 then 10 else 0)))) ∧
  (∀ c ∈ cs, xfld ah m 11 c = some (.ref (ad c)) ∧ ah (ad c) = some (.inl (mTy c, mLen c, .inl fun _ => 0)) ∧ ah0 (ad c) = none ∧ ad c ≠ m) ∧
  (∀ c ∈ cs, ∀ c' ∈ cs, ad c = ad c' → c = c') ∧ (∀ a, a ≠ m → (∀ c ∈ cs, a ≠ ad c) → ah a = ah0 a)
theorem xfld_up_ne {ah : xH} {q a ci kf : Nat} {o : xO} (h : a ≠ q) : xfld (xup ah q o) a ci kf = xfld ah a ci kf := by
  unfold xfld; rw [xup_ne _ _ h]
section
variable {κ : Nat → Nat} {R : xR → xH → Prop} {ad : Nat → Nat} {m : Nat} {cs : List Nat} {ah0 ah : xH}
theorem PM.isS (p : PM ad m cs ah0 ah) (c : Nat) (hc : c < 27) : (xfld ah m 11 c).isSome = true := p.1 c hc
theorem PM.ne (p : PM ad m cs ah0 ah) {x : Nat} (hx : ah x = none) : m ≠ x := by
  intro e
  subst e
  have := p.2.1
  unfold xfld at this
  rw [hx] at this
  cases this
theorem PM.isS' (p : PM ad m cs ah0 ah) {x : Nat} (hx : ah x = none) (o : xO) (c : Nat) (hc : c < 27) : (xfld (xup ah x o) m 11 c).isSome = true := by
  rw [xfld_up_ne (p.ne hx)]; exact p.1 c hc
theorem PM.st (p : PM ad m cs ah0 ah) {x c t N : Nat} (hx : ah x = none) (hc : c ∈ mArrs) (hcs : c ∉ cs) (ht : t = mTy c) (hN : N = mLen c) : PM (fun i => if i = c then x else ad i) m (c :: cs) ah0 (xput (xup ah x (.inl (t, N, .inl fun _ => 0))) m c (.ref x)) := by
  subst ht; subst hN
  have hm := p.ne hx
  have h27 : c < 27 := (show ∀ c ∈ mArrs, c < 27 from by decide) c hc
  obtain ⟨w, hw⟩ := Option.isSome_iff_exists.mp (p.isS' hx (.inl (mTy c, mLen c, .inl fun _ => 0)) c h27)
  obtain ⟨p1, p2, p3, p4, p5, p6⟩ := p
  have hf : ∀ j, xfld (xput (xup ah x (.inl (mTy c, mLen c, .inl fun _ => 0))) m c (.ref x)) m 11 j = if j = c then some (.ref x) else xfld ah m 11 j := by
    intro j
    rw [xfld_put hw, xfld_up_ne hm]
    by_cases e : j = c
    · rw [if_pos ⟨rfl, rfl, e⟩, if_pos e]
    · rw [if_neg (fun q => e q.2.2), if_neg e]
  obtain ⟨fs, -, -, h3⟩ := xput_eq (v := .ref x) hw
  have ho : ∀ a, a ≠ m → a ≠ x → xput (xup ah x (.inl (mTy c, mLen c, .inl fun _ => 0))) m c (.ref x) a = ah a := by
    intro a h1 h2
    rw [h3, xup_ne _ _ h1, xup_ne _ _ h2]
  have hx' : xput (xup ah x (.inl (mTy c, mLen c, .inl fun _ => 0))) m c (.ref x) x = some (.inl (mTy c, mLen c, .inl fun _ => 0)) := by
    rw [h3, xup_ne _ _ (fun q => hm q.symm), xup_self]
  have nS : ∀ j ∈ mScal, j ≠ c := fun j hj e => mSA j hj (e ▸ hc)
  have n26 : 26 ≠ c := fun e => absurd hc (by rw [← e]; decide)
  have hne : ∀ c' ∈ cs, c' ≠ c := fun c' h e => hcs (e ▸ h)
  have hxa : ∀ c' ∈ cs, ad c' ≠ x := fun c' h e => by
    have := (p4 c' h).2.1
    rw [e, hx] at this
    cases this
  refine ⟨fun j hj => ?_, ?_, fun j hj => ?_, fun j hj => ?_, fun j hj j' hj' e => ?_, fun a h1 h2 => ?_⟩
  · rw [hf]
    by_cases e : j = c
    · rw [if_pos e]; rfl
    · rw [if_neg e]; exact p1 j hj
  · rw [hf, if_neg n26]; exact p2
  · rw [hf, if_neg (nS j hj)]; exact p3 j hj
  · by_cases e : j = c
    · subst e
      rw [hf, if_pos rfl]
      dsimp only
      rw [if_pos rfl]
      refine ⟨rfl, hx', ?_, fun q => hm q.symm⟩
      rw [← p6 x (fun q => hm q.symm) (fun c' h q => hxa c' h q.symm)]
      exact hx
    · have hj' : j ∈ cs := (List.mem_cons.mp hj).elim (fun q => absurd q e) id
      obtain ⟨q1, q2, q3, q4⟩ := p4 j hj'
      rw [hf, if_neg e]
      dsimp only
      rw [if_neg e]
      exact ⟨q1, by rw [ho _ q4 (hxa j hj')]; exact q2, q3, q4⟩
  · dsimp only at e
    by_cases e1 : j = c <;> by_cases e2 : j' = c
    · rw [e1, e2]
    · have hj2 : j' ∈ cs := (List.mem_cons.mp hj').elim (fun q => absurd q e2) id
      rw [if_pos e1, if_neg e2] at e
      exact absurd e.symm (hxa j' hj2)
    · have hj1 : j ∈ cs := (List.mem_cons.mp hj).elim (fun q => absurd q e1) id
      rw [if_neg e1, if_pos e2] at e
      exact absurd e (hxa j hj1)
    · have hj1 : j ∈ cs := (List.mem_cons.mp hj).elim (fun q => absurd q e1) id
      have hj2 : j' ∈ cs := (List.mem_cons.mp hj').elim (fun q => absurd q e2) id
      rw [if_neg e1, if_neg e2] at e
      exact p5 j hj1 j' hj2 e
  · have hax : a ≠ x := fun e => h2 c (List.mem_cons_self) (by show a = (if c = c then x else ad c); rw [if_pos rfl]; exact e)
    rw [ho a h1 hax]
    exact p6 a h1 (fun c' h e => h2 c' (List.mem_cons_of_mem _ h) (by show a = (if c' = c then x else ad c'); rw [if_neg (hne c' h)]; exact e))
theorem PM.mr (p : PM ad m [25, 24, 23, 22, 21, 19, 18, 17, 15, 14, 13, 12, 11, 10, 9, 8, 7, 6, 5, 4] ah0 ah) : MR ad m ah0 ah s00 0 ∧ ∀ c ∈ mArrs, ah0 (ad c) = none ∧ ad c ≠ m := by
  obtain ⟨p1, p2, p3, p4, p5, p6⟩ := p
  have hin : ∀ c ∈ mArrs, c ∈ [25, 24, 23, 22, 21, 19, 18, 17, 15, 14, 13, 12, 11, 10, 9, 8, 7, 6, 5, 4] := by decide
  have hin' : ∀ c ∈ [25, 24, 23, 22, 21, 19, 18, 17, 15, 14, 13, 12, 11, 10, 9, 8, 7, 6, 5, 4], c ∈ mArrs := by decide
  refine ⟨⟨p2, fun c hc => ?_, fun c hc => ⟨(p4 c (hin c hc)).1, ?_⟩, fun c hc c' hc' e => p5 c (hin c hc) c' (hin c' hc') e, fun a h1 h2 => p6 a h1 (fun c hc => h2 c (hin' c hc))⟩, fun c hc => ⟨(p4 c (hin c hc)).2.2.1, (p4 c (hin c hc)).2.2.2⟩⟩
  · rw [p3 c hc]
    have : ∀ c ∈ mScal, (if c = 1 then 10 else 0) = s00 c 0 := by decide
    rw [this c hc]
  · refine ⟨fun _ => 0, ?_, fun i hi => ?_⟩
    · unfold xai
      rw [(p4 c (hin c hc)).2.1]
      dsimp only
      rw [if_pos rfl]
    · have : ∀ c ∈ mArrs, (0 : Int32) = cv c (s00 c 0) := by decide
      exact this c hc
theorem lp_init {th : Nat} (hR : ∀ (ah' : xH) (σ' : xS), MR ad m ah0 ah' σ' th → (∀ c i, ¬ (c = 22 ∨ c = 23) → σ' c i = s00 c i) → (∀ i, i < 48 → σ' 22 i = 0 ∧ σ' 23 i = 0) → R (.inl none) ah') : ∀ (n s : Nat) (σ : xS) (ah : xH), s + n = 48 → MR ad m ah0 ah σ th → (∀ c i, ¬ (c = 22 ∨ c = 23) → σ c i = s00 c i) → (∀ i, i < s → σ 22 i = 0 ∧ σ 23 i = 0) →
    xW (T91 κ) (xm κ) R (179, [some (.ref m), some (.int (nI s))], [], ah, 0, 0) := by
  intro n
  induction n with
  | zero =>
    intro s σ ah hs h h1 h2
    have hs' : s = 48 := by omega
    subst hs'
    rw [e91_179]
    simp (disch := omega) only [e91_180, e91_182, e91_185, e91_185n, e91_186, e91_189, e91_190, e91_191, e91_192, e91_192n, e91_193, e91_196, e91_197, e91_198, e91_199, e91_202, e91_205, xKv, xK0, xKx, xKHv, xKH0, xk_none, xk_i, xk_f, xk_l, xk_r, xk_n, xc_i, xc_f, xc_l, xc_d, xc_r, xc_n, xo_some, List.map_cons, List.map_nil, List.sum_cons, List.sum_nil, xnzn, xpn0, xpn1, xpnb, xpnn, i10, i00, true_imp_iff, false_imp_iff, not_true_eq_false, not_false_eq_true, true_and, and_true, implies_true, xnz0, xnz1, xnzb, xfz0, xfz1, xfzb, Option.isSome_some, if_true, if_false, xbF, xbT, and_false, false_and, Nat.zero_le, Nat.reduceEqDiff, Nat.reduceLeDiff, Nat.reduceAdd, Nat.reduceSub, xiT, xiF, pk_mul, nI_add, Nat.add_sub_cancel, lad0, leq0, lle0, lge0, llt0, lgt0, leq1, lle1, lge1, llt1, lgt1, lad1, lsu1, leq2, lle2, lge2, llt2, lgt2, lmu2, lmv2, lad2, lsu2, ldi2, leq3, lle3, lge3, llt3, lgt3, lmu3, lmv3, lad3, lsu3, ldi3, leq4, lle4, lge4, llt4, lgt4, lmu4, lmv4, lad4, lsu4, ldi4, leq5, lle5, lge5, llt5, lgt5, lmu5, lmv5, lad5, lsu5, ldi5, leq6, lle6, lge6, llt6, lgt6, lmu6, lmv6, lad6, lsu6, ldi6, leq8, lle8, lge8, llt8, lgt8, lmu8, lmv8, lad8, lsu8, ldi8, leq9, lle9, lge9, llt9, lgt9, lmu9, lmv9, lad9, lsu9, ldi9, leq10, lle10, lge10, llt10, lgt10, lmu10, lmv10, lad10, lsu10, ldi10, leq12, lle12, lge12, llt12, lgt12, lmu12, lmv12, lad12, lsu12, ldi12, leq20, lle20, lge20, llt20, lgt20, lmu20, lmv20, lad20, lsu20, ldi20, leq25, lle25, lge25, llt25, lgt25, lmu25, lmv25, lad25, lsu25, ldi25, leq30, lle30, lge30, llt30, lgt30, lmu30, lmv30, lad30, lsu30, ldi30, leq48, lle48, lge48, llt48, lgt48, lmu48, lmv48, lad48, lsu48, ldi48, leq50, lle50, lge50, llt50, lgt50, lmu50, lmv50, lad50, lsu50, ldi50, leq99, lle99, lge99, llt99, lgt99, lmu99, lmv99, lad99, lsu99, ldi99, leq100, lle100, lge100, llt100, lgt100, lmu100, lmv100, lad100, lsu100, ldi100, leq2000, lle2000, lge2000, llt2000, lgt2000, lmu2000, lmv2000, lad2000, lsu2000, ldi2000, Nat.le_refl]
    exact hR ah σ h h1 h2
  | succ n ih =>
    intro s σ ah hs h h1 h2
    have hlt : ¬ 48 ≤ s := by omega
    obtain ⟨f22, ha22, hf22⟩ := h.r22
    have g1 := h.w22 s 0 ha22 (by omega) (x := -1) rfl
    obtain ⟨f23, ha23, hf23⟩ := g1.r23
    have g2 := g1.w23 s 0 ha23 (by omega) (x := -1) rfl
    have st := ih (s + 1) _ _ (by omega) g2 (fun c i hc => by rw [su_ne (fun q => hc (Or.inr q.1)), su_ne (fun q => hc (Or.inl q.1))]; exact h1 c i hc) (fun i hi => by
      by_cases e : i = s
      · subst e
        rw [su_ne (by omega), su_eq, su_eq]
        exact ⟨rfl, rfl⟩
      · rw [su_ne (by omega), su_ne (by omega), su_ne (by omega), su_ne (by omega)]
        exact h2 i (by omega))
    rw [e91_179]
    simp (disch := omega) only [e91_180, e91_182, e91_185, e91_185n, e91_186, e91_189, e91_190, e91_191, e91_192, e91_192n, e91_193, e91_196, e91_197, e91_198, e91_199, e91_202, e91_205, xKv, xK0, xKx, xKHv, xKH0, xk_none, xk_i, xk_f, xk_l, xk_r, xk_n, xc_i, xc_f, xc_l, xc_d, xc_r, xc_n, xo_some, List.map_cons, List.map_nil, List.sum_cons, List.sum_nil, xnzn, xpn0, xpn1, xpnb, xpnn, i10, i00, true_imp_iff, false_imp_iff, not_true_eq_false, not_false_eq_true, true_and, and_true, implies_true, xnz0, xnz1, xnzb, xfz0, xfz1, xfzb, Option.isSome_some, if_true, if_false, xbF, xbT, and_false, false_and, Nat.zero_le, Nat.reduceEqDiff, Nat.reduceLeDiff, Nat.reduceAdd, Nat.reduceSub, xiT, xiF, pk_mul, nI_add, Nat.add_sub_cancel, lad0, leq0, lle0, lge0, llt0, lgt0, leq1, lle1, lge1, llt1, lgt1, lad1, lsu1, leq2, lle2, lge2, llt2, lgt2, lmu2, lmv2, lad2, lsu2, ldi2, leq3, lle3, lge3, llt3, lgt3, lmu3, lmv3, lad3, lsu3, ldi3, leq4, lle4, lge4, llt4, lgt4, lmu4, lmv4, lad4, lsu4, ldi4, leq5, lle5, lge5, llt5, lgt5, lmu5, lmv5, lad5, lsu5, ldi5, leq6, lle6, lge6, llt6, lgt6, lmu6, lmv6, lad6, lsu6, ldi6, leq8, lle8, lge8, llt8, lgt8, lmu8, lmv8, lad8, lsu8, ldi8, leq9, lle9, lge9, llt9, lgt9, lmu9, lmv9, lad9, lsu9, ldi9, leq10, lle10, lge10, llt10, lgt10, lmu10, lmv10, lad10, lsu10, ldi10, leq12, lle12, lge12, llt12, lgt12, lmu12, lmv12, lad12, lsu12, ldi12, leq20, lle20, lge20, llt20, lgt20, lmu20, lmv20, lad20, lsu20, ldi20, leq25, lle25, lge25, llt25, lgt25, lmu25, lmv25, lad25, lsu25, ldi25, leq30, lle30, lge30, llt30, lgt30, lmu30, lmv30, lad30, lsu30, ldi30, leq48, lle48, lge48, llt48, lgt48, lmu48, lmv48, lad48, lsu48, ldi48, leq50, lle50, lge50, llt50, lgt50, lmu50, lmv50, lad50, lsu50, ldi50, leq99, lle99, lge99, llt99, lgt99, lmu99, lmv99, lad99, lsu99, ldi99, leq100, lle100, lge100, llt100, lgt100, lmu100, lmv100, lad100, lsu100, ldi100, leq2000, lle2000, lge2000, llt2000, lgt2000, lmu2000, lmv2000, lad2000, lsu2000, ldi2000, hlt, h.a 22, ha22, g1.a 23, ha23, xin_nI, nI_cl]
    exact st
theorem sp_m_init (hm : ah m = some (.inr (11, mF0))) (hR : ∀ (ad : Nat → Nat) (ah' : xH) (σ' : xS), MR ad m ah ah' σ' 0 → (∀ c ∈ mArrs, ah (ad c) = none ∧ ad c ≠ m) → (∀ c i, ¬ (c = 22 ∨ c = 23) → σ' c i = s00 c i) → (∀ i, i < 48 → σ' 22 i = 0 ∧ σ' 23 i = 0) → R (.inl none) ah') : xm κ 91 [.ref m] ah R := by
  have hl : ∀ (ad : Nat → Nat) (ah' : xH), PM ad m [25, 24, 23, 22, 21, 19, 18, 17, 15, 14, 13, 12, 11, 10, 9, 8, 7, 6, 5, 4] ah ah' → xW (T91 κ) (xm κ) R (177, [some (.ref m), none], [], ah', 0, 0) := by
    intro ad ah' p
    obtain ⟨h1, h2⟩ := p.mr
    rw [e91_177, e91_178]
    exact lp_init (fun ah'' σ' q1 q2 q3 => hR ad ah'' σ' q1 h2 q2 q3) 48 0 s00 ah' rfl h1 (fun _ _ _ => rfl) (fun i hi => by omega)
  have k25 : ∀ (ad : Nat → Nat) (ah' : xH), PM ad m [24, 23, 22, 21, 19, 18, 17, 15, 14, 13, 12, 11, 10, 9, 8, 7, 6, 5, 4] ah ah' → xW (T91 κ) (xm κ) R (169, [some (.ref m), none], [], ah', 1, 48) := by
    intro ad ah' p
    rw [e91_169, e91_170, e91_172]
    exact ⟨⟨by decide +kernel, by decide +kernel⟩, by decide, by decide +kernel, fun x hx => (e91_174).mpr ⟨p.isS' hx _ 25 (by decide), hl _ _ (p.st hx (by decide) (by decide) rfl (by decide +kernel))⟩⟩
  have k24 : ∀ (ad : Nat → Nat) (ah' : xH), PM ad m [23, 22, 21, 19, 18, 17, 15, 14, 13, 12, 11, 10, 9, 8, 7, 6, 5, 4] ah ah' → xW (T91 κ) (xm κ) R (161, [some (.ref m), none], [], ah', 2, 96) := by
    intro ad ah' p
    rw [e91_161, e91_162, e91_164]
    exact ⟨⟨by decide +kernel, by decide +kernel⟩, by decide, by decide +kernel, fun x hx => (e91_166).mpr ⟨p.isS' hx _ 24 (by decide), k25 _ _ (p.st hx (by decide) (by decide) rfl (by decide +kernel))⟩⟩
  have k23 : ∀ (ad : Nat → Nat) (ah' : xH), PM ad m [22, 21, 19, 18, 17, 15, 14, 13, 12, 11, 10, 9, 8, 7, 6, 5, 4] ah ah' → xW (T91 κ) (xm κ) R (153, [some (.ref m), none], [], ah', 3, 144) := by
    intro ad ah' p
    rw [e91_153, e91_154, e91_156]
    exact ⟨⟨by decide +kernel, by decide +kernel⟩, by decide, by decide +kernel, fun x hx => (e91_158).mpr ⟨p.isS' hx _ 23 (by decide), k24 _ _ (p.st hx (by decide) (by decide) rfl (by decide +kernel))⟩⟩
  have k22 : ∀ (ad : Nat → Nat) (ah' : xH), PM ad m [21, 19, 18, 17, 15, 14, 13, 12, 11, 10, 9, 8, 7, 6, 5, 4] ah ah' → xW (T91 κ) (xm κ) R (145, [some (.ref m), none], [], ah', 4, 192) := by
    intro ad ah' p
    rw [e91_145, e91_146, e91_148]
    exact ⟨⟨by decide +kernel, by decide +kernel⟩, by decide, by decide +kernel, fun x hx => (e91_150).mpr ⟨p.isS' hx _ 22 (by decide), k23 _ _ (p.st hx (by decide) (by decide) rfl (by decide +kernel))⟩⟩
  have k21 : ∀ (ad : Nat → Nat) (ah' : xH), PM ad m [19, 18, 17, 15, 14, 13, 12, 11, 10, 9, 8, 7, 6, 5, 4] ah ah' → xW (T91 κ) (xm κ) R (137, [some (.ref m), none], [], ah', 5, 222) := by
    intro ad ah' p
    rw [e91_137, e91_138, e91_140]
    exact ⟨⟨by decide +kernel, by decide +kernel⟩, by decide, by decide +kernel, fun x hx => (e91_142).mpr ⟨p.isS' hx _ 21 (by decide), k22 _ _ (p.st hx (by decide) (by decide) rfl (by decide +kernel))⟩⟩
  have k19 : ∀ (ad : Nat → Nat) (ah' : xH), PM ad m [18, 17, 15, 14, 13, 12, 11, 10, 9, 8, 7, 6, 5, 4] ah ah' → xW (T91 κ) (xm κ) R (129, [some (.ref m), none], [], ah', 6, 232) := by
    intro ad ah' p
    rw [e91_129, e91_130, e91_132]
    exact ⟨⟨by decide +kernel, by decide +kernel⟩, by decide, by decide +kernel, fun x hx => (e91_134).mpr ⟨p.isS' hx _ 19 (by decide), k21 _ _ (p.st hx (by decide) (by decide) rfl (by decide +kernel))⟩⟩
  have k18 : ∀ (ad : Nat → Nat) (ah' : xH), PM ad m [17, 15, 14, 13, 12, 11, 10, 9, 8, 7, 6, 5, 4] ah ah' → xW (T91 κ) (xm κ) R (121, [some (.ref m), none], [], ah', 7, 312) := by
    intro ad ah' p
    rw [e91_121, e91_122, e91_124]
    exact ⟨⟨by decide +kernel, by decide +kernel⟩, by decide, by decide +kernel, fun x hx => (e91_126).mpr ⟨p.isS' hx _ 18 (by decide), k19 _ _ (p.st hx (by decide) (by decide) rfl (by decide +kernel))⟩⟩
  have k17 : ∀ (ad : Nat → Nat) (ah' : xH), PM ad m [15, 14, 13, 12, 11, 10, 9, 8, 7, 6, 5, 4] ah ah' → xW (T91 κ) (xm κ) R (113, [some (.ref m), none], [], ah', 8, 322) := by
    intro ad ah' p
    rw [e91_113, e91_114, e91_116]
    exact ⟨⟨by decide +kernel, by decide +kernel⟩, by decide, by decide +kernel, fun x hx => (e91_118).mpr ⟨p.isS' hx _ 17 (by decide), k18 _ _ (p.st hx (by decide) (by decide) rfl (by decide +kernel))⟩⟩
  have k15 : ∀ (ad : Nat → Nat) (ah' : xH), PM ad m [14, 13, 12, 11, 10, 9, 8, 7, 6, 5, 4] ah ah' → xW (T91 κ) (xm κ) R (104, [some (.ref m), none], [], ah', 9, 1042) := by
    intro ad ah' p
    rw [e91_104, e91_105, e91_108]
    exact ⟨⟨by decide +kernel, by decide +kernel⟩, by decide, by decide +kernel, fun x hx => (e91_110).mpr ⟨p.isS' hx _ 15 (by decide), k17 _ _ (p.st hx (by decide) (by decide) rfl (by decide +kernel))⟩⟩
  have k14 : ∀ (ad : Nat → Nat) (ah' : xH), PM ad m [13, 12, 11, 10, 9, 8, 7, 6, 5, 4] ah ah' → xW (T91 κ) (xm κ) R (95, [some (.ref m), none], [], ah', 10, 1762) := by
    intro ad ah' p
    rw [e91_95, e91_96, e91_99]
    exact ⟨⟨by decide +kernel, by decide +kernel⟩, by decide, by decide +kernel, fun x hx => (e91_101).mpr ⟨p.isS' hx _ 14 (by decide), k15 _ _ (p.st hx (by decide) (by decide) rfl (by decide +kernel))⟩⟩
  have k13 : ∀ (ad : Nat → Nat) (ah' : xH), PM ad m [12, 11, 10, 9, 8, 7, 6, 5, 4] ah ah' → xW (T91 κ) (xm κ) R (86, [some (.ref m), none], [], ah', 11, 2482) := by
    intro ad ah' p
    rw [e91_86, e91_87, e91_90]
    exact ⟨⟨by decide +kernel, by decide +kernel⟩, by decide, by decide +kernel, fun x hx => (e91_92).mpr ⟨p.isS' hx _ 13 (by decide), k14 _ _ (p.st hx (by decide) (by decide) rfl (by decide +kernel))⟩⟩
  have k12 : ∀ (ad : Nat → Nat) (ah' : xH), PM ad m [11, 10, 9, 8, 7, 6, 5, 4] ah ah' → xW (T91 κ) (xm κ) R (77, [some (.ref m), none], [], ah', 12, 3202) := by
    intro ad ah' p
    rw [e91_77, e91_78, e91_81]
    exact ⟨⟨by decide +kernel, by decide +kernel⟩, by decide, by decide +kernel, fun x hx => (e91_83).mpr ⟨p.isS' hx _ 12 (by decide), k13 _ _ (p.st hx (by decide) (by decide) rfl (by decide +kernel))⟩⟩
  have k11 : ∀ (ad : Nat → Nat) (ah' : xH), PM ad m [10, 9, 8, 7, 6, 5, 4] ah ah' → xW (T91 κ) (xm κ) R (68, [some (.ref m), none], [], ah', 13, 3922) := by
    intro ad ah' p
    rw [e91_68, e91_69, e91_72]
    exact ⟨⟨by decide +kernel, by decide +kernel⟩, by decide, by decide +kernel, fun x hx => (e91_74).mpr ⟨p.isS' hx _ 11 (by decide), k12 _ _ (p.st hx (by decide) (by decide) rfl (by decide +kernel))⟩⟩
  have k10 : ∀ (ad : Nat → Nat) (ah' : xH), PM ad m [9, 8, 7, 6, 5, 4] ah ah' → xW (T91 κ) (xm κ) R (59, [some (.ref m), none], [], ah', 14, 4642) := by
    intro ad ah' p
    rw [e91_59, e91_60, e91_63]
    exact ⟨⟨by decide +kernel, by decide +kernel⟩, by decide, by decide +kernel, fun x hx => (e91_65).mpr ⟨p.isS' hx _ 10 (by decide), k11 _ _ (p.st hx (by decide) (by decide) rfl (by decide +kernel))⟩⟩
  have k9 : ∀ (ad : Nat → Nat) (ah' : xH), PM ad m [8, 7, 6, 5, 4] ah ah' → xW (T91 κ) (xm κ) R (50, [some (.ref m), none], [], ah', 15, 5362) := by
    intro ad ah' p
    rw [e91_50, e91_51, e91_54]
    exact ⟨⟨by decide +kernel, by decide +kernel⟩, by decide, by decide +kernel, fun x hx => (e91_56).mpr ⟨p.isS' hx _ 9 (by decide), k10 _ _ (p.st hx (by decide) (by decide) rfl (by decide +kernel))⟩⟩
  have k8 : ∀ (ad : Nat → Nat) (ah' : xH), PM ad m [7, 6, 5, 4] ah ah' → xW (T91 κ) (xm κ) R (42, [some (.ref m), none], [], ah', 16, 5482) := by
    intro ad ah' p
    rw [e91_42, e91_43, e91_45]
    exact ⟨⟨by decide +kernel, by decide +kernel⟩, by decide, by decide +kernel, fun x hx => (e91_47).mpr ⟨p.isS' hx _ 8 (by decide), k9 _ _ (p.st hx (by decide) (by decide) rfl (by decide +kernel))⟩⟩
  have k7 : ∀ (ad : Nat → Nat) (ah' : xH), PM ad m [6, 5, 4] ah ah' → xW (T91 κ) (xm κ) R (34, [some (.ref m), none], [], ah', 17, 5602) := by
    intro ad ah' p
    rw [e91_34, e91_35, e91_37]
    exact ⟨⟨by decide +kernel, by decide +kernel⟩, by decide, by decide +kernel, fun x hx => (e91_39).mpr ⟨p.isS' hx _ 7 (by decide), k8 _ _ (p.st hx (by decide) (by decide) rfl (by decide +kernel))⟩⟩
  have k6 : ∀ (ad : Nat → Nat) (ah' : xH), PM ad m [5, 4] ah ah' → xW (T91 κ) (xm κ) R (26, [some (.ref m), none], [], ah', 18, 5612) := by
    intro ad ah' p
    rw [e91_26, e91_27, e91_29]
    exact ⟨⟨by decide +kernel, by decide +kernel⟩, by decide, by decide +kernel, fun x hx => (e91_31).mpr ⟨p.isS' hx _ 6 (by decide), k7 _ _ (p.st hx (by decide) (by decide) rfl (by decide +kernel))⟩⟩
  have k5 : ∀ (ad : Nat → Nat) (ah' : xH), PM ad m [4] ah ah' → xW (T91 κ) (xm κ) R (18, [some (.ref m), none], [], ah', 19, 5622) := by
    intro ad ah' p
    rw [e91_18, e91_19, e91_21]
    exact ⟨⟨by decide +kernel, by decide +kernel⟩, by decide, by decide +kernel, fun x hx => (e91_23).mpr ⟨p.isS' hx _ 5 (by decide), k6 _ _ (p.st hx (by decide) (by decide) rfl (by decide +kernel))⟩⟩
  have k4 : ∀ (ad : Nat → Nat) (ah' : xH), PM ad m [] ah ah' → xW (T91 κ) (xm κ) R (10, [some (.ref m), none], [], ah', 20, 5632) := by
    intro ad ah' p
    rw [e91_10, e91_11, e91_13]
    exact ⟨⟨by decide +kernel, by decide +kernel⟩, by decide, by decide +kernel, fun x hx => (e91_15).mpr ⟨p.isS' hx _ 4 (by decide), k5 _ _ (p.st hx (by decide) (by decide) rfl (by decide +kernel))⟩⟩
  have hf : ∀ c, xfld ah m 11 c = mF0[c]? := by
    intro c
    unfold xfld
    rw [hm]
    dsimp only
    rw [if_pos rfl]
  have h1 : xfld ah m 11 1 = some (.int 0) := hf 1
  rw [en91, e91_0, e91_1, e91_4, e91_5, e91_7]
  refine ⟨by rw [h1]; rfl, k4 (fun _ => 0) _ ⟨fun c hc => ?_, ?_, fun c hc => ?_, fun c hc => absurd hc (List.not_mem_nil), fun c hc => absurd hc (List.not_mem_nil), fun a h1' h2' => ?_⟩⟩
  · rw [xfld_put h1]
    by_cases e : c = 1
    · rw [if_pos ⟨rfl, rfl, e⟩]; rfl
    · rw [if_neg (fun q => e q.2.2), hf]
      exact (show ∀ c, c < 27 → (mF0[c]?).isSome = true from by decide +kernel) c hc
  · rw [xfld_put h1, if_neg (fun q => absurd q.2.2 (by decide)), hf]; rfl
  · rw [xfld_put h1]
    by_cases e : c = 1
    · rw [if_pos ⟨rfl, rfl, e⟩, if_pos e]; rfl
    · rw [if_neg (fun q => e q.2.2), if_neg e, hf]
      have : c = 0 ∨ c = 2 ∨ c = 3 ∨ c = 16 ∨ c = 20 := by
        have : ∀ c ∈ mScal, c = 1 ∨ c = 0 ∨ c = 2 ∨ c = 3 ∨ c = 16 ∨ c = 20 := by decide
        exact (this c hc).elim (fun q => absurd q e) id
      rcases this with rfl | rfl | rfl | rfl | rfl <;> rfl
  · obtain ⟨fs, -, -, h3⟩ := xput_eq (v := .int 10) h1
    rw [h3, xup_ne _ _ h1']
end
