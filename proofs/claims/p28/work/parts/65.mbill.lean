/-! bill -/
def cpd (σ : xS) (c u : Nat) : Nat := if c = 2 then σ 10 u else if c = 4 then (if σ 10 u < 3 then 3 else σ 10 u) else if c = 3 ∧ ¬ σ 14 u = 0 then 0 else 1
def cps (σ : xS) (c : Nat) : Nat → Nat → Nat
  | 0, _ => 0
  | n + 1, u => cpd σ c u + cps σ c n (u + 1)
def pdf (σ : xS) (c a : Nat) : Nat := if c = 1 then (if σ 8 a = 0 then 0 else 1) else cps σ c (σ 8 a) (6 * a)
def pds (σ : xS) (w c : Nat) : Nat → Nat → Nat
  | 0, _ => 0
  | n + 1, s => pdf σ c (12 * w + s) + pds σ w c n (s + 1)
section
variable {κ : Nat → Nat} {R : xR → xH → Prop} {ad : Nat → Nat} {m : Nat} {ah0 ah : xH} {σ : xS} {th : Nat}
theorem cpd_le (hI : MI σ) {c u : Nat} (hu : u < 720) : cpd σ c u ≤ 20 := by
  have := hI.c hu
  unfold cpd
  repeat' split
  all_goals omega
theorem cps_le (hI : MI σ) {c : Nat} : ∀ (n u : Nat), u + n ≤ 720 → cps σ c n u ≤ 20 * n := by
  intro n
  induction n with
  | zero => intro u _; exact Nat.zero_le _
  | succ n ih =>
    intro u hu
    have h1 := ih (u + 1) (by omega)
    have h2 := cpd_le hI (c := c) (u := u) (by omega)
    show cpd σ c u + cps σ c n (u + 1) ≤ 20 * (n + 1)
    omega
theorem pdf_le (hI : MI σ) {c a : Nat} (ha : a < 120) : pdf σ c a ≤ 120 := by
  have h8 := hI.w8 ha
  have := cps_le hI (c := c) (σ 8 a) (6 * a) (by omega)
  unfold pdf
  repeat' split
  all_goals omega
noncomputable def t_bill (σ : xS) (w c p : Int32) : Nat := xi (xin w (σ 3 0)) (xi (xin c 6 ∧ xrg p 1 100) 0 2) 1
def nBill (σ : xS) (w c p : Nat) : Nat := pds σ w c (σ 4 w) 0 * p + if c = 5 then pds σ w c (σ 4 w) 0 * p / 2 else 0
noncomputable def v_bill (σ : xS) (w c p : Int32) : Int32 := xi (t_bill σ w c p = 0) (nI (nBill σ w.toNatClampNeg c.toNatClampNeg p.toNatClampNeg)) 0
theorem pds_le (hI : MI σ) {w c : Nat} (hw : w < 10) : ∀ (n s : Nat), s + n ≤ 12 → pds σ w c n s ≤ 120 * n := by
  intro n
  induction n with
  | zero => intro s _; exact Nat.zero_le _
  | succ n ih =>
    intro s hs
    have h1 := ih (s + 1) (by omega)
    have h2 := pdf_le hI (c := c) (a := 12 * w + s) (by omega)
    show pdf σ c (12 * w + s) + pds σ w c n (s + 1) ≤ 120 * (n + 1)
    omega
end

