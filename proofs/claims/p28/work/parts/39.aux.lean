/-! small equations for the walks -/
theorem xKv {P : xC → Prop} {R : xR → xH → Prop} {q : Nat} {ls : xL} {st : List Value} {k n : Nat} {v : Value} {ah : xH} : xK P R q ls st k n (.inl (some v)) ah = P (q, ls, v :: st, ah, k, n) := rfl
theorem xK0 {P : xC → Prop} {R : xR → xH → Prop} {q : Nat} {ls : xL} {st : List Value} {k n : Nat} {ah : xH} : xK P R q ls st k n (.inl none) ah = P (q, ls, st, ah, k, n) := rfl
theorem xKx {P : xC → Prop} {R : xR → xH → Prop} {q : Nat} {ls : xL} {st : List Value} {k n E : Nat} {ah : xH} : xK P R q ls st k n (.inr E) ah = R (.inr E) ah := rfl
theorem xKHv {P : xC → Prop} {hd : Nat → Option Nat} {q : Nat} {ls : xL} {st : List Value} {k n : Nat} {v : Value} {ah : xH} : xKH P hd q ls st k n (.inl (some v)) ah = P (q, ls, v :: st, ah, k, n) := rfl
theorem xKH0 {P : xC → Prop} {hd : Nat → Option Nat} {q : Nat} {ls : xL} {st : List Value} {k n : Nat} {ah : xH} : xKH P hd q ls st k n (.inl none) ah = P (q, ls, st, ah, k, n) := rfl
theorem xk_none : xkill none = none := rfl
theorem xk_i (x : Int32) : xkill (some (.int x)) = some (.int x) := rfl
theorem xk_f (x : UInt32) : xkill (some (.float x)) = some (.float x) := rfl
theorem xk_l (x : Int64) : xkill (some (.long x)) = none := rfl
theorem xk_r (x : Nat) : xkill (some (.ref x)) = some (.ref x) := rfl
theorem xk_n : xkill (some .null) = some .null := rfl
theorem xc_i (x : Int32) : Value.category (.int x) = 1 := rfl
theorem xc_f (x : UInt32) : Value.category (.float x) = 1 := rfl
theorem xc_l (x : Int64) : Value.category (.long x) = 2 := rfl
theorem xc_d (x : UInt64) : Value.category (.double x) = 2 := rfl
theorem xc_r (x : Nat) : Value.category (.ref x) = 1 := rfl
theorem xc_n : Value.category .null = 1 := rfl
theorem xaeq {x y : Nat} {A B : Prop} : ((some x = some y → A) ∧ (¬ some x = some y → B)) ↔ ((x = y → A) ∧ (¬ x = y → B)) := by rw [Option.some.injEq]
theorem xane {x y : Nat} {A B : Prop} : ((¬ some x = some y → A) ∧ (¬ ¬ some x = some y → B)) ↔ ((¬ x = y → A) ∧ (x = y → B)) := by rw [Option.some.injEq, Decidable.not_not]
theorem xnne {p : Prop} [Decidable p] {A B : Prop} : ((¬ p → A) ∧ (¬ ¬ p → B)) ↔ ((¬ p → A) ∧ (p → B)) := by rw [Decidable.not_not]
theorem xTt {A B : Prop} : ((True → A) ∧ (¬ True → B)) ↔ A := ⟨fun h => h.1 trivial, fun h => ⟨fun _ => h, fun n => (n trivial).elim⟩⟩
theorem xFf {A B : Prop} : ((False → A) ∧ (¬ False → B)) ↔ B := ⟨fun h => h.2 id, fun h => ⟨False.elim, fun _ => h⟩⟩
theorem xtand {P A : Prop} (h : P) : (P ∧ A) ↔ A := ⟨fun x => x.2, fun a => ⟨h, a⟩⟩
theorem xtand2 {P Q A : Prop} (h : Q) : (P ∧ Q ∧ A) ↔ (P ∧ A) := ⟨fun x => ⟨x.1, x.2.2⟩, fun a => ⟨a.1, h, a.2⟩⟩
theorem eCall {κ : Nat → Nat} {T : xT} {R : xR → xH → Prop} {pc : Nat} {ls : xL} {as st : List Value} {ah : xH} {k n y na mc ms q : Nat} {gd : List Value → xH → Prop} {g : Prop} (h : T pc = iCall gd y na mc ms q) (hl : as.length = na) (hg : gd as ah ↔ g) : xW T (xm κ) R (pc, ls, as.reverse ++ st, ah, k, n) ↔ ((st.map Value.category).sum ≤ 8 ∧ g ∧ mc ≤ k ∧ ms ≤ n) ∧ xm κ y as ah (xK (xW T (xm κ) R) R q ls st (k - mc) (n - ms)) := by
  refine (xWu h).trans ?_
  have e1 : (as.reverse ++ st).drop na = st := by rw [← hl, ← List.length_reverse]; exact List.drop_left
  have e2 : ((as.reverse ++ st).take na).reverse = as := by rw [← hl, ← List.length_reverse, List.take_left, List.reverse_reverse]
  show ((na ≤ (as.reverse ++ st).length ∧ (((as.reverse ++ st).drop na).map Value.category).sum ≤ 8 ∧ gd ((as.reverse ++ st).take na).reverse ah) ∧ (mc ≤ k ∧ ms ≤ n) ∧ ∃ Rc : xR → xH → Prop, xm κ y ((as.reverse ++ st).take na).reverse ah Rc ∧ ∀ r ah', Rc r ah' → xK (xW T (xm κ) R) R q ls ((as.reverse ++ st).drop na) (k - mc) (n - ms) r ah') ↔ _
  rw [e1, e2, hg]
  constructor
  · rintro ⟨⟨-, h2, h3⟩, ⟨h4, h5⟩, h6⟩
    exact ⟨⟨h2, h3, h4, h5⟩, (xSem_call (xTb κ) xnL xmc xms).mp h6⟩
  · rintro ⟨⟨h2, h3, h4, h5⟩, h6⟩
    exact ⟨⟨by rw [List.length_append, List.length_reverse, hl]; omega, h2, h3⟩, ⟨h4, h5⟩, (xSem_call (xTb κ) xnL xmc xms).mpr h6⟩
theorem eCall0 {κ : Nat → Nat} {T : xT} {R : xR → xH → Prop} {pc : Nat} {ls : xL} {as st : List Value} {ah : xH} {k n y na q : Nat} {gd : List Value → xH → Prop} {g : Prop} (h : T pc = iCall gd y na 0 0 q) (hl : as.length = na) (hg : gd as ah ↔ g) : xW T (xm κ) R (pc, ls, as.reverse ++ st, ah, k, n) ↔ ((st.map Value.category).sum ≤ 8 ∧ g) ∧ xm κ y as ah (xK (xW T (xm κ) R) R q ls st k n) := (eCall h hl hg).trans ⟨fun x => ⟨⟨x.1.1, x.1.2.1⟩, x.2⟩, fun x => ⟨⟨x.1.1, x.1.2, Nat.zero_le _, Nat.zero_le _⟩, x.2⟩⟩
theorem eCallH {κ : Nat → Nat} {T : xT} {R : xR → xH → Prop} {pc : Nat} {ls : xL} {as st : List Value} {ah : xH} {k n y na mc ms q : Nat} {hd : Nat → Option Nat} {gd : List Value → xH → Prop} {g : Prop} (h : T pc = iCallH gd y na mc ms q hd) (hl : as.length = na) (hg : gd as ah ↔ g) : xW T (xm κ) R (pc, ls, as.reverse ++ st, ah, k, n) ↔ ((st.map Value.category).sum ≤ 8 ∧ g ∧ mc ≤ k ∧ ms ≤ n) ∧ xm κ y as ah (xKH (xW T (xm κ) R) hd q ls st (k - mc) (n - ms)) := by
  refine (xWu h).trans ?_
  have e1 : (as.reverse ++ st).drop na = st := by rw [← hl, ← List.length_reverse]; exact List.drop_left
  have e2 : ((as.reverse ++ st).take na).reverse = as := by rw [← hl, ← List.length_reverse, List.take_left, List.reverse_reverse]
  show ((na ≤ (as.reverse ++ st).length ∧ (((as.reverse ++ st).drop na).map Value.category).sum ≤ 8 ∧ gd ((as.reverse ++ st).take na).reverse ah) ∧ (mc ≤ k ∧ ms ≤ n) ∧ ∃ Rc : xR → xH → Prop, xm κ y ((as.reverse ++ st).take na).reverse ah Rc ∧ ∀ r ah', Rc r ah' → xKH (xW T (xm κ) R) hd q ls ((as.reverse ++ st).drop na) (k - mc) (n - ms) r ah') ↔ _
  rw [e1, e2, hg]
  constructor
  · rintro ⟨⟨-, h2, h3⟩, ⟨h4, h5⟩, h6⟩
    exact ⟨⟨h2, h3, h4, h5⟩, (xSem_call (xTb κ) xnL xmc xms).mp h6⟩
  · rintro ⟨⟨h2, h3, h4, h5⟩, h6⟩
    exact ⟨⟨by rw [List.length_append, List.length_reverse, hl]; omega, h2, h3⟩, ⟨h4, h5⟩, (xSem_call (xTb κ) xnL xmc xms).mpr h6⟩
