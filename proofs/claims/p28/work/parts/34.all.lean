/-! every method: its pure meaning is its contract on the machine (printed by wip/gen/gen34.py) -/
section
variable {l : Launch} {D : va_G} {dA : Nat → ClassId} {sz0 : Nat} {κ : Nat → Nat}
theorem M0 (hst : l.stackTraces = false) {as : List Value} {ah : xH} {Rr : xR → xH → Prop} (hf : xfit as (xnL 0)) (h : xW (T0 κ) (xMet l D dA sz0 κ) Rr (0, xEnt as (xnL 0), [], ah, xmc 0, xms 0)) : xMet l D dA sz0 κ 0 as ah Rr := xMeth hst rfl (by decide) S0 hf h
theorem M1 (hst : l.stackTraces = false) {as : List Value} {ah : xH} {Rr : xR → xH → Prop} (hf : xfit as (xnL 1)) (h : xW (T1 κ) (xMet l D dA sz0 κ) Rr (0, xEnt as (xnL 1), [], ah, xmc 1, xms 1)) : xMet l D dA sz0 κ 1 as ah Rr := xMeth hst rfl (by decide) S1 hf h
theorem M2 (hst : l.stackTraces = false) {as : List Value} {ah : xH} {Rr : xR → xH → Prop} (hf : xfit as (xnL 2)) (h : xW (T2 κ) (xMet l D dA sz0 κ) Rr (0, xEnt as (xnL 2), [], ah, xmc 2, xms 2)) : xMet l D dA sz0 κ 2 as ah Rr := xMeth hst rfl (by decide) S2 hf h
theorem M3 (hst : l.stackTraces = false) {as : List Value} {ah : xH} {Rr : xR → xH → Prop} (hf : xfit as (xnL 3)) (h : xW (T3 κ) (xMet l D dA sz0 κ) Rr (0, xEnt as (xnL 3), [], ah, xmc 3, xms 3)) : xMet l D dA sz0 κ 3 as ah Rr := xMeth hst rfl (by decide) S3 hf h
theorem M4 (hst : l.stackTraces = false) {as : List Value} {ah : xH} {Rr : xR → xH → Prop} (hf : xfit as (xnL 4)) (h : xW (T4 κ) (xMet l D dA sz0 κ) Rr (0, xEnt as (xnL 4), [], ah, xmc 4, xms 4)) : xMet l D dA sz0 κ 4 as ah Rr := xMeth hst rfl (by decide) S4 hf h
theorem M5 (hst : l.stackTraces = false) {as : List Value} {ah : xH} {Rr : xR → xH → Prop} (hf : xfit as (xnL 5)) (h : xW (T5 κ) (xMet l D dA sz0 κ) Rr (0, xEnt as (xnL 5), [], ah, xmc 5, xms 5)) : xMet l D dA sz0 κ 5 as ah Rr := xMeth hst rfl (by decide) S5 hf h
theorem M6 (hst : l.stackTraces = false) {as : List Value} {ah : xH} {Rr : xR → xH → Prop} (hf : xfit as (xnL 6)) (h : xW (T6 κ) (xMet l D dA sz0 κ) Rr (0, xEnt as (xnL 6), [], ah, xmc 6, xms 6)) : xMet l D dA sz0 κ 6 as ah Rr := xMeth hst rfl (by decide) S6 hf h
theorem M7 (hst : l.stackTraces = false) {as : List Value} {ah : xH} {Rr : xR → xH → Prop} (hf : xfit as (xnL 7)) (h : xW (T7 κ) (xMet l D dA sz0 κ) Rr (0, xEnt as (xnL 7), [], ah, xmc 7, xms 7)) : xMet l D dA sz0 κ 7 as ah Rr := xMeth hst rfl (by decide) S7 hf h
theorem M8 (hst : l.stackTraces = false) {as : List Value} {ah : xH} {Rr : xR → xH → Prop} (hf : xfit as (xnL 8)) (h : xW (T8 κ) (xMet l D dA sz0 κ) Rr (0, xEnt as (xnL 8), [], ah, xmc 8, xms 8)) : xMet l D dA sz0 κ 8 as ah Rr := xMeth hst rfl (by decide) S8 hf h
theorem M9 (hst : l.stackTraces = false) {as : List Value} {ah : xH} {Rr : xR → xH → Prop} (hf : xfit as (xnL 9)) (h : xW (T9 κ) (xMet l D dA sz0 κ) Rr (0, xEnt as (xnL 9), [], ah, xmc 9, xms 9)) : xMet l D dA sz0 κ 9 as ah Rr := xMeth hst rfl (by decide) S9 hf h
theorem M10 (hst : l.stackTraces = false) {as : List Value} {ah : xH} {Rr : xR → xH → Prop} (hf : xfit as (xnL 10)) (h : xW (T10 κ) (xMet l D dA sz0 κ) Rr (0, xEnt as (xnL 10), [], ah, xmc 10, xms 10)) : xMet l D dA sz0 κ 10 as ah Rr := xMeth hst rfl (by decide) S10 hf h
theorem M11 (hst : l.stackTraces = false) {as : List Value} {ah : xH} {Rr : xR → xH → Prop} (hf : xfit as (xnL 11)) (h : xW (T11 κ) (xMet l D dA sz0 κ) Rr (0, xEnt as (xnL 11), [], ah, xmc 11, xms 11)) : xMet l D dA sz0 κ 11 as ah Rr := xMeth hst rfl (by decide) S11 hf h
theorem M12 (hst : l.stackTraces = false) {as : List Value} {ah : xH} {Rr : xR → xH → Prop} (hf : xfit as (xnL 12)) (h : xW (T12 κ) (xMet l D dA sz0 κ) Rr (0, xEnt as (xnL 12), [], ah, xmc 12, xms 12)) : xMet l D dA sz0 κ 12 as ah Rr := xMeth hst rfl (by decide) S12 hf h
theorem M13 (hst : l.stackTraces = false) {as : List Value} {ah : xH} {Rr : xR → xH → Prop} (hf : xfit as (xnL 13)) (h : xW (T13 κ) (xMet l D dA sz0 κ) Rr (0, xEnt as (xnL 13), [], ah, xmc 13, xms 13)) : xMet l D dA sz0 κ 13 as ah Rr := xMeth hst rfl (by decide) S13 hf h
theorem M14 (hst : l.stackTraces = false) {as : List Value} {ah : xH} {Rr : xR → xH → Prop} (hf : xfit as (xnL 14)) (h : xW (T14 κ) (xMet l D dA sz0 κ) Rr (0, xEnt as (xnL 14), [], ah, xmc 14, xms 14)) : xMet l D dA sz0 κ 14 as ah Rr := xMeth hst rfl (by decide) S14 hf h
theorem M15 (hst : l.stackTraces = false) {as : List Value} {ah : xH} {Rr : xR → xH → Prop} (hf : xfit as (xnL 15)) (h : xW (T15 κ) (xMet l D dA sz0 κ) Rr (0, xEnt as (xnL 15), [], ah, xmc 15, xms 15)) : xMet l D dA sz0 κ 15 as ah Rr := xMeth hst rfl (by decide) S15 hf h
theorem M16 (hst : l.stackTraces = false) {as : List Value} {ah : xH} {Rr : xR → xH → Prop} (hf : xfit as (xnL 16)) (h : xW (T16 κ) (xMet l D dA sz0 κ) Rr (0, xEnt as (xnL 16), [], ah, xmc 16, xms 16)) : xMet l D dA sz0 κ 16 as ah Rr := xMeth hst rfl (by decide) S16 hf h
theorem M17 (hst : l.stackTraces = false) {as : List Value} {ah : xH} {Rr : xR → xH → Prop} (hf : xfit as (xnL 17)) (h : xW (T17 κ) (xMet l D dA sz0 κ) Rr (0, xEnt as (xnL 17), [], ah, xmc 17, xms 17)) : xMet l D dA sz0 κ 17 as ah Rr := xMeth hst rfl (by decide) S17 hf h
theorem M18 (hst : l.stackTraces = false) {as : List Value} {ah : xH} {Rr : xR → xH → Prop} (hf : xfit as (xnL 18)) (h : xW (T18 κ) (xMet l D dA sz0 κ) Rr (0, xEnt as (xnL 18), [], ah, xmc 18, xms 18)) : xMet l D dA sz0 κ 18 as ah Rr := xMeth hst rfl (by decide) S18 hf h
theorem M19 (hst : l.stackTraces = false) {as : List Value} {ah : xH} {Rr : xR → xH → Prop} (hf : xfit as (xnL 19)) (h : xW (T19 κ) (xMet l D dA sz0 κ) Rr (0, xEnt as (xnL 19), [], ah, xmc 19, xms 19)) : xMet l D dA sz0 κ 19 as ah Rr := xMeth hst rfl (by decide) S19 hf h
theorem M20 (hst : l.stackTraces = false) {as : List Value} {ah : xH} {Rr : xR → xH → Prop} (hf : xfit as (xnL 20)) (h : xW (T20 κ) (xMet l D dA sz0 κ) Rr (0, xEnt as (xnL 20), [], ah, xmc 20, xms 20)) : xMet l D dA sz0 κ 20 as ah Rr := xMeth hst rfl (by decide) S20 hf h
theorem M21 (hst : l.stackTraces = false) {as : List Value} {ah : xH} {Rr : xR → xH → Prop} (hf : xfit as (xnL 21)) (h : xW (T21 κ) (xMet l D dA sz0 κ) Rr (0, xEnt as (xnL 21), [], ah, xmc 21, xms 21)) : xMet l D dA sz0 κ 21 as ah Rr := xMeth hst rfl (by decide) S21 hf h
theorem M22 (hst : l.stackTraces = false) {as : List Value} {ah : xH} {Rr : xR → xH → Prop} (hf : xfit as (xnL 22)) (h : xW (T22 κ) (xMet l D dA sz0 κ) Rr (0, xEnt as (xnL 22), [], ah, xmc 22, xms 22)) : xMet l D dA sz0 κ 22 as ah Rr := xMeth hst rfl (by decide) S22 hf h
theorem M23 (hst : l.stackTraces = false) {as : List Value} {ah : xH} {Rr : xR → xH → Prop} (hf : xfit as (xnL 23)) (h : xW (T23 κ) (xMet l D dA sz0 κ) Rr (0, xEnt as (xnL 23), [], ah, xmc 23, xms 23)) : xMet l D dA sz0 κ 23 as ah Rr := xMeth hst rfl (by decide) S23 hf h
theorem M24 (hst : l.stackTraces = false) {as : List Value} {ah : xH} {Rr : xR → xH → Prop} (hf : xfit as (xnL 24)) (h : xW (T24 κ) (xMet l D dA sz0 κ) Rr (0, xEnt as (xnL 24), [], ah, xmc 24, xms 24)) : xMet l D dA sz0 κ 24 as ah Rr := xMeth hst rfl (by decide) S24 hf h
theorem M25 (hst : l.stackTraces = false) {as : List Value} {ah : xH} {Rr : xR → xH → Prop} (hf : xfit as (xnL 25)) (h : xW (T25 κ) (xMet l D dA sz0 κ) Rr (0, xEnt as (xnL 25), [], ah, xmc 25, xms 25)) : xMet l D dA sz0 κ 25 as ah Rr := xMeth hst rfl (by decide) S25 hf h
theorem M26 (hst : l.stackTraces = false) {as : List Value} {ah : xH} {Rr : xR → xH → Prop} (hf : xfit as (xnL 26)) (h : xW (T26 κ) (xMet l D dA sz0 κ) Rr (0, xEnt as (xnL 26), [], ah, xmc 26, xms 26)) : xMet l D dA sz0 κ 26 as ah Rr := xMeth hst rfl (by decide) S26 hf h
theorem M27 (hst : l.stackTraces = false) {as : List Value} {ah : xH} {Rr : xR → xH → Prop} (hf : xfit as (xnL 27)) (h : xW (T27 κ) (xMet l D dA sz0 κ) Rr (0, xEnt as (xnL 27), [], ah, xmc 27, xms 27)) : xMet l D dA sz0 κ 27 as ah Rr := xMeth hst rfl (by decide) S27 hf h
theorem M28 (hst : l.stackTraces = false) {as : List Value} {ah : xH} {Rr : xR → xH → Prop} (hf : xfit as (xnL 28)) (h : xW (T28 κ) (xMet l D dA sz0 κ) Rr (0, xEnt as (xnL 28), [], ah, xmc 28, xms 28)) : xMet l D dA sz0 κ 28 as ah Rr := xMeth hst rfl (by decide) S28 hf h
theorem M29 (hst : l.stackTraces = false) {as : List Value} {ah : xH} {Rr : xR → xH → Prop} (hf : xfit as (xnL 29)) (h : xW (T29 κ) (xMet l D dA sz0 κ) Rr (0, xEnt as (xnL 29), [], ah, xmc 29, xms 29)) : xMet l D dA sz0 κ 29 as ah Rr := xMeth hst rfl (by decide) S29 hf h
theorem M30 (hst : l.stackTraces = false) {as : List Value} {ah : xH} {Rr : xR → xH → Prop} (hf : xfit as (xnL 30)) (h : xW (T30 κ) (xMet l D dA sz0 κ) Rr (0, xEnt as (xnL 30), [], ah, xmc 30, xms 30)) : xMet l D dA sz0 κ 30 as ah Rr := xMeth hst rfl (by decide) S30 hf h
theorem M31 (hst : l.stackTraces = false) {as : List Value} {ah : xH} {Rr : xR → xH → Prop} (hf : xfit as (xnL 31)) (h : xW (T31 κ) (xMet l D dA sz0 κ) Rr (0, xEnt as (xnL 31), [], ah, xmc 31, xms 31)) : xMet l D dA sz0 κ 31 as ah Rr := xMeth hst rfl (by decide) S31 hf h
theorem M32 (hst : l.stackTraces = false) {as : List Value} {ah : xH} {Rr : xR → xH → Prop} (hf : xfit as (xnL 32)) (h : xW (T32 κ) (xMet l D dA sz0 κ) Rr (0, xEnt as (xnL 32), [], ah, xmc 32, xms 32)) : xMet l D dA sz0 κ 32 as ah Rr := xMeth hst rfl (by decide) S32 hf h
theorem M33 (hst : l.stackTraces = false) {as : List Value} {ah : xH} {Rr : xR → xH → Prop} (hf : xfit as (xnL 33)) (h : xW (T33 κ) (xMet l D dA sz0 κ) Rr (0, xEnt as (xnL 33), [], ah, xmc 33, xms 33)) : xMet l D dA sz0 κ 33 as ah Rr := xMeth hst rfl (by decide) S33 hf h
theorem M34 (hst : l.stackTraces = false) {as : List Value} {ah : xH} {Rr : xR → xH → Prop} (hf : xfit as (xnL 34)) (h : xW (T34 κ) (xMet l D dA sz0 κ) Rr (0, xEnt as (xnL 34), [], ah, xmc 34, xms 34)) : xMet l D dA sz0 κ 34 as ah Rr := xMeth hst rfl (by decide) S34 hf h
theorem M35 (hst : l.stackTraces = false) {as : List Value} {ah : xH} {Rr : xR → xH → Prop} (hf : xfit as (xnL 35)) (h : xW (T35 κ) (xMet l D dA sz0 κ) Rr (0, xEnt as (xnL 35), [], ah, xmc 35, xms 35)) : xMet l D dA sz0 κ 35 as ah Rr := xMeth hst rfl (by decide) S35 hf h
theorem M36 (hst : l.stackTraces = false) {as : List Value} {ah : xH} {Rr : xR → xH → Prop} (hf : xfit as (xnL 36)) (h : xW (T36 κ) (xMet l D dA sz0 κ) Rr (0, xEnt as (xnL 36), [], ah, xmc 36, xms 36)) : xMet l D dA sz0 κ 36 as ah Rr := xMeth hst rfl (by decide) S36 hf h
theorem M37 (hst : l.stackTraces = false) {as : List Value} {ah : xH} {Rr : xR → xH → Prop} (hf : xfit as (xnL 37)) (h : xW (T37 κ) (xMet l D dA sz0 κ) Rr (0, xEnt as (xnL 37), [], ah, xmc 37, xms 37)) : xMet l D dA sz0 κ 37 as ah Rr := xMeth hst rfl (by decide) S37 hf h
theorem M38 (hst : l.stackTraces = false) {as : List Value} {ah : xH} {Rr : xR → xH → Prop} (hf : xfit as (xnL 38)) (h : xW (T38 κ) (xMet l D dA sz0 κ) Rr (0, xEnt as (xnL 38), [], ah, xmc 38, xms 38)) : xMet l D dA sz0 κ 38 as ah Rr := xMeth hst rfl (by decide) S38 hf h
theorem M39 (hst : l.stackTraces = false) {as : List Value} {ah : xH} {Rr : xR → xH → Prop} (hf : xfit as (xnL 39)) (h : xW (T39 κ) (xMet l D dA sz0 κ) Rr (0, xEnt as (xnL 39), [], ah, xmc 39, xms 39)) : xMet l D dA sz0 κ 39 as ah Rr := xMeth hst rfl (by decide) S39 hf h
theorem M40 (hst : l.stackTraces = false) {as : List Value} {ah : xH} {Rr : xR → xH → Prop} (hf : xfit as (xnL 40)) (h : xW (T40 κ) (xMet l D dA sz0 κ) Rr (0, xEnt as (xnL 40), [], ah, xmc 40, xms 40)) : xMet l D dA sz0 κ 40 as ah Rr := xMeth hst rfl (by decide) S40 hf h
theorem M41 (hst : l.stackTraces = false) {as : List Value} {ah : xH} {Rr : xR → xH → Prop} (hf : xfit as (xnL 41)) (h : xW (T41 κ) (xMet l D dA sz0 κ) Rr (0, xEnt as (xnL 41), [], ah, xmc 41, xms 41)) : xMet l D dA sz0 κ 41 as ah Rr := xMeth hst rfl (by decide) S41 hf h
theorem M42 (hst : l.stackTraces = false) {as : List Value} {ah : xH} {Rr : xR → xH → Prop} (hf : xfit as (xnL 42)) (h : xW (T42 κ) (xMet l D dA sz0 κ) Rr (0, xEnt as (xnL 42), [], ah, xmc 42, xms 42)) : xMet l D dA sz0 κ 42 as ah Rr := xMeth hst rfl (by decide) S42 hf h
theorem M43 (hst : l.stackTraces = false) {as : List Value} {ah : xH} {Rr : xR → xH → Prop} (hf : xfit as (xnL 43)) (h : xW (T43 κ) (xMet l D dA sz0 κ) Rr (0, xEnt as (xnL 43), [], ah, xmc 43, xms 43)) : xMet l D dA sz0 κ 43 as ah Rr := xMeth hst rfl (by decide) S43 hf h
theorem M44 (hst : l.stackTraces = false) {as : List Value} {ah : xH} {Rr : xR → xH → Prop} (hf : xfit as (xnL 44)) (h : xW (T44 κ) (xMet l D dA sz0 κ) Rr (0, xEnt as (xnL 44), [], ah, xmc 44, xms 44)) : xMet l D dA sz0 κ 44 as ah Rr := xMeth hst rfl (by decide) S44 hf h
theorem M45 (hst : l.stackTraces = false) {as : List Value} {ah : xH} {Rr : xR → xH → Prop} (hf : xfit as (xnL 45)) (h : xW (T45 κ) (xMet l D dA sz0 κ) Rr (0, xEnt as (xnL 45), [], ah, xmc 45, xms 45)) : xMet l D dA sz0 κ 45 as ah Rr := xMeth hst rfl (by decide) S45 hf h
theorem M46 (hst : l.stackTraces = false) {as : List Value} {ah : xH} {Rr : xR → xH → Prop} (hf : xfit as (xnL 46)) (h : xW (T46 κ) (xMet l D dA sz0 κ) Rr (0, xEnt as (xnL 46), [], ah, xmc 46, xms 46)) : xMet l D dA sz0 κ 46 as ah Rr := xMeth hst rfl (by decide) S46 hf h
theorem M47 (hst : l.stackTraces = false) {as : List Value} {ah : xH} {Rr : xR → xH → Prop} (hf : xfit as (xnL 47)) (h : xW (T47 κ) (xMet l D dA sz0 κ) Rr (0, xEnt as (xnL 47), [], ah, xmc 47, xms 47)) : xMet l D dA sz0 κ 47 as ah Rr := xMeth hst rfl (by decide) S47 hf h
theorem M48 (hst : l.stackTraces = false) {as : List Value} {ah : xH} {Rr : xR → xH → Prop} (hf : xfit as (xnL 48)) (h : xW (T48 κ) (xMet l D dA sz0 κ) Rr (0, xEnt as (xnL 48), [], ah, xmc 48, xms 48)) : xMet l D dA sz0 κ 48 as ah Rr := xMeth hst rfl (by decide) S48 hf h
theorem M49 (hst : l.stackTraces = false) {as : List Value} {ah : xH} {Rr : xR → xH → Prop} (hf : xfit as (xnL 49)) (h : xW (T49 κ) (xMet l D dA sz0 κ) Rr (0, xEnt as (xnL 49), [], ah, xmc 49, xms 49)) : xMet l D dA sz0 κ 49 as ah Rr := xMeth hst rfl (by decide) S49 hf h
theorem M50 (hst : l.stackTraces = false) {as : List Value} {ah : xH} {Rr : xR → xH → Prop} (hf : xfit as (xnL 50)) (h : xW (T50 κ) (xMet l D dA sz0 κ) Rr (0, xEnt as (xnL 50), [], ah, xmc 50, xms 50)) : xMet l D dA sz0 κ 50 as ah Rr := xMeth hst rfl (by decide) S50 hf h
theorem M51 (hst : l.stackTraces = false) {as : List Value} {ah : xH} {Rr : xR → xH → Prop} (hf : xfit as (xnL 51)) (h : xW (T51 κ) (xMet l D dA sz0 κ) Rr (0, xEnt as (xnL 51), [], ah, xmc 51, xms 51)) : xMet l D dA sz0 κ 51 as ah Rr := xMeth hst rfl (by decide) S51 hf h
theorem M52 (hst : l.stackTraces = false) {as : List Value} {ah : xH} {Rr : xR → xH → Prop} (hf : xfit as (xnL 52)) (h : xW (T52 κ) (xMet l D dA sz0 κ) Rr (0, xEnt as (xnL 52), [], ah, xmc 52, xms 52)) : xMet l D dA sz0 κ 52 as ah Rr := xMeth hst rfl (by decide) S52 hf h
theorem M53 (hst : l.stackTraces = false) {as : List Value} {ah : xH} {Rr : xR → xH → Prop} (hf : xfit as (xnL 53)) (h : xW (T53 κ) (xMet l D dA sz0 κ) Rr (0, xEnt as (xnL 53), [], ah, xmc 53, xms 53)) : xMet l D dA sz0 κ 53 as ah Rr := xMeth hst rfl (by decide) S53 hf h
theorem M54 (hst : l.stackTraces = false) {as : List Value} {ah : xH} {Rr : xR → xH → Prop} (hf : xfit as (xnL 54)) (h : xW (T54 κ) (xMet l D dA sz0 κ) Rr (0, xEnt as (xnL 54), [], ah, xmc 54, xms 54)) : xMet l D dA sz0 κ 54 as ah Rr := xMeth hst rfl (by decide) S54 hf h
theorem M55 (hst : l.stackTraces = false) {as : List Value} {ah : xH} {Rr : xR → xH → Prop} (hf : xfit as (xnL 55)) (h : xW (T55 κ) (xMet l D dA sz0 κ) Rr (0, xEnt as (xnL 55), [], ah, xmc 55, xms 55)) : xMet l D dA sz0 κ 55 as ah Rr := xMeth hst rfl (by decide) S55 hf h
theorem M56 (hst : l.stackTraces = false) {as : List Value} {ah : xH} {Rr : xR → xH → Prop} (hf : xfit as (xnL 56)) (h : xW (T56 κ) (xMet l D dA sz0 κ) Rr (0, xEnt as (xnL 56), [], ah, xmc 56, xms 56)) : xMet l D dA sz0 κ 56 as ah Rr := xMeth hst rfl (by decide) S56 hf h
theorem M57 (hst : l.stackTraces = false) {as : List Value} {ah : xH} {Rr : xR → xH → Prop} (hf : xfit as (xnL 57)) (h : xW (T57 κ) (xMet l D dA sz0 κ) Rr (0, xEnt as (xnL 57), [], ah, xmc 57, xms 57)) : xMet l D dA sz0 κ 57 as ah Rr := xMeth hst rfl (by decide) S57 hf h
theorem M58 (hst : l.stackTraces = false) {as : List Value} {ah : xH} {Rr : xR → xH → Prop} (hf : xfit as (xnL 58)) (h : xW (T58 κ) (xMet l D dA sz0 κ) Rr (0, xEnt as (xnL 58), [], ah, xmc 58, xms 58)) : xMet l D dA sz0 κ 58 as ah Rr := xMeth hst rfl (by decide) S58 hf h
theorem M59 (hst : l.stackTraces = false) {as : List Value} {ah : xH} {Rr : xR → xH → Prop} (hf : xfit as (xnL 59)) (h : xW (T59 κ) (xMet l D dA sz0 κ) Rr (0, xEnt as (xnL 59), [], ah, xmc 59, xms 59)) : xMet l D dA sz0 κ 59 as ah Rr := xMeth hst rfl (by decide) S59 hf h
theorem M60 (hst : l.stackTraces = false) {as : List Value} {ah : xH} {Rr : xR → xH → Prop} (hf : xfit as (xnL 60)) (h : xW (T60 κ) (xMet l D dA sz0 κ) Rr (0, xEnt as (xnL 60), [], ah, xmc 60, xms 60)) : xMet l D dA sz0 κ 60 as ah Rr := xMeth hst rfl (by decide) S60 hf h
theorem M61 (hst : l.stackTraces = false) {as : List Value} {ah : xH} {Rr : xR → xH → Prop} (hf : xfit as (xnL 61)) (h : xW (T61 κ) (xMet l D dA sz0 κ) Rr (0, xEnt as (xnL 61), [], ah, xmc 61, xms 61)) : xMet l D dA sz0 κ 61 as ah Rr := xMeth hst rfl (by decide) S61 hf h
theorem M62 (hst : l.stackTraces = false) {as : List Value} {ah : xH} {Rr : xR → xH → Prop} (hf : xfit as (xnL 62)) (h : xW (T62 κ) (xMet l D dA sz0 κ) Rr (0, xEnt as (xnL 62), [], ah, xmc 62, xms 62)) : xMet l D dA sz0 κ 62 as ah Rr := xMeth hst rfl (by decide) S62 hf h
theorem M63 (hst : l.stackTraces = false) {as : List Value} {ah : xH} {Rr : xR → xH → Prop} (hf : xfit as (xnL 63)) (h : xW (T63 κ) (xMet l D dA sz0 κ) Rr (0, xEnt as (xnL 63), [], ah, xmc 63, xms 63)) : xMet l D dA sz0 κ 63 as ah Rr := xMeth hst rfl (by decide) S63 hf h
theorem M64 (hst : l.stackTraces = false) {as : List Value} {ah : xH} {Rr : xR → xH → Prop} (hf : xfit as (xnL 64)) (h : xW (T64 κ) (xMet l D dA sz0 κ) Rr (0, xEnt as (xnL 64), [], ah, xmc 64, xms 64)) : xMet l D dA sz0 κ 64 as ah Rr := xMeth hst rfl (by decide) S64 hf h
theorem M65 (hst : l.stackTraces = false) {as : List Value} {ah : xH} {Rr : xR → xH → Prop} (hf : xfit as (xnL 65)) (h : xW (T65 κ) (xMet l D dA sz0 κ) Rr (0, xEnt as (xnL 65), [], ah, xmc 65, xms 65)) : xMet l D dA sz0 κ 65 as ah Rr := xMeth hst rfl (by decide) S65 hf h
theorem M66 (hst : l.stackTraces = false) {as : List Value} {ah : xH} {Rr : xR → xH → Prop} (hf : xfit as (xnL 66)) (h : xW (T66 κ) (xMet l D dA sz0 κ) Rr (0, xEnt as (xnL 66), [], ah, xmc 66, xms 66)) : xMet l D dA sz0 κ 66 as ah Rr := xMeth hst rfl (by decide) S66 hf h
theorem M67 (hst : l.stackTraces = false) {as : List Value} {ah : xH} {Rr : xR → xH → Prop} (hf : xfit as (xnL 67)) (h : xW (T67 κ) (xMet l D dA sz0 κ) Rr (0, xEnt as (xnL 67), [], ah, xmc 67, xms 67)) : xMet l D dA sz0 κ 67 as ah Rr := xMeth hst rfl (by decide) S67 hf h
theorem M68 (hst : l.stackTraces = false) {as : List Value} {ah : xH} {Rr : xR → xH → Prop} (hf : xfit as (xnL 68)) (h : xW (T68 κ) (xMet l D dA sz0 κ) Rr (0, xEnt as (xnL 68), [], ah, xmc 68, xms 68)) : xMet l D dA sz0 κ 68 as ah Rr := xMeth hst rfl (by decide) S68 hf h
theorem M69 (hst : l.stackTraces = false) {as : List Value} {ah : xH} {Rr : xR → xH → Prop} (hf : xfit as (xnL 69)) (h : xW (T69 κ) (xMet l D dA sz0 κ) Rr (0, xEnt as (xnL 69), [], ah, xmc 69, xms 69)) : xMet l D dA sz0 κ 69 as ah Rr := xMeth hst rfl (by decide) S69 hf h
theorem M70 (hst : l.stackTraces = false) {as : List Value} {ah : xH} {Rr : xR → xH → Prop} (hf : xfit as (xnL 70)) (h : xW (T70 κ) (xMet l D dA sz0 κ) Rr (0, xEnt as (xnL 70), [], ah, xmc 70, xms 70)) : xMet l D dA sz0 κ 70 as ah Rr := xMeth hst rfl (by decide) S70 hf h
theorem M71 (hst : l.stackTraces = false) {as : List Value} {ah : xH} {Rr : xR → xH → Prop} (hf : xfit as (xnL 71)) (h : xW (T71 κ) (xMet l D dA sz0 κ) Rr (0, xEnt as (xnL 71), [], ah, xmc 71, xms 71)) : xMet l D dA sz0 κ 71 as ah Rr := xMeth hst rfl (by decide) S71 hf h
theorem M72 (hst : l.stackTraces = false) {as : List Value} {ah : xH} {Rr : xR → xH → Prop} (hf : xfit as (xnL 72)) (h : xW (T72 κ) (xMet l D dA sz0 κ) Rr (0, xEnt as (xnL 72), [], ah, xmc 72, xms 72)) : xMet l D dA sz0 κ 72 as ah Rr := xMeth hst rfl (by decide) S72 hf h
theorem M73 (hst : l.stackTraces = false) {as : List Value} {ah : xH} {Rr : xR → xH → Prop} (hf : xfit as (xnL 73)) (h : xW (T73 κ) (xMet l D dA sz0 κ) Rr (0, xEnt as (xnL 73), [], ah, xmc 73, xms 73)) : xMet l D dA sz0 κ 73 as ah Rr := xMeth hst rfl (by decide) S73 hf h
theorem M74 (hst : l.stackTraces = false) {as : List Value} {ah : xH} {Rr : xR → xH → Prop} (hf : xfit as (xnL 74)) (h : xW (T74 κ) (xMet l D dA sz0 κ) Rr (0, xEnt as (xnL 74), [], ah, xmc 74, xms 74)) : xMet l D dA sz0 κ 74 as ah Rr := xMeth hst rfl (by decide) S74 hf h
theorem M75 (hst : l.stackTraces = false) {as : List Value} {ah : xH} {Rr : xR → xH → Prop} (hf : xfit as (xnL 75)) (h : xW (T75 κ) (xMet l D dA sz0 κ) Rr (0, xEnt as (xnL 75), [], ah, xmc 75, xms 75)) : xMet l D dA sz0 κ 75 as ah Rr := xMeth hst rfl (by decide) S75 hf h
theorem M76 (hst : l.stackTraces = false) {as : List Value} {ah : xH} {Rr : xR → xH → Prop} (hf : xfit as (xnL 76)) (h : xW (T76 κ) (xMet l D dA sz0 κ) Rr (0, xEnt as (xnL 76), [], ah, xmc 76, xms 76)) : xMet l D dA sz0 κ 76 as ah Rr := xMeth hst rfl (by decide) S76 hf h
theorem M77 (hst : l.stackTraces = false) {as : List Value} {ah : xH} {Rr : xR → xH → Prop} (hf : xfit as (xnL 77)) (h : xW (T77 κ) (xMet l D dA sz0 κ) Rr (0, xEnt as (xnL 77), [], ah, xmc 77, xms 77)) : xMet l D dA sz0 κ 77 as ah Rr := xMeth hst rfl (by decide) S77 hf h
theorem M78 (hst : l.stackTraces = false) {as : List Value} {ah : xH} {Rr : xR → xH → Prop} (hf : xfit as (xnL 78)) (h : xW (T78 κ) (xMet l D dA sz0 κ) Rr (0, xEnt as (xnL 78), [], ah, xmc 78, xms 78)) : xMet l D dA sz0 κ 78 as ah Rr := xMeth hst rfl (by decide) S78 hf h
theorem M79 (hst : l.stackTraces = false) {as : List Value} {ah : xH} {Rr : xR → xH → Prop} (hf : xfit as (xnL 79)) (h : xW (T79 κ) (xMet l D dA sz0 κ) Rr (0, xEnt as (xnL 79), [], ah, xmc 79, xms 79)) : xMet l D dA sz0 κ 79 as ah Rr := xMeth hst rfl (by decide) S79 hf h
theorem M80 (hst : l.stackTraces = false) {as : List Value} {ah : xH} {Rr : xR → xH → Prop} (hf : xfit as (xnL 80)) (h : xW (T80 κ) (xMet l D dA sz0 κ) Rr (0, xEnt as (xnL 80), [], ah, xmc 80, xms 80)) : xMet l D dA sz0 κ 80 as ah Rr := xMeth hst rfl (by decide) S80 hf h
theorem M81 (hst : l.stackTraces = false) {as : List Value} {ah : xH} {Rr : xR → xH → Prop} (hf : xfit as (xnL 81)) (h : xW (T81 κ) (xMet l D dA sz0 κ) Rr (0, xEnt as (xnL 81), [], ah, xmc 81, xms 81)) : xMet l D dA sz0 κ 81 as ah Rr := xMeth hst rfl (by decide) S81 hf h
theorem M82 (hst : l.stackTraces = false) {as : List Value} {ah : xH} {Rr : xR → xH → Prop} (hf : xfit as (xnL 82)) (h : xW (T82 κ) (xMet l D dA sz0 κ) Rr (0, xEnt as (xnL 82), [], ah, xmc 82, xms 82)) : xMet l D dA sz0 κ 82 as ah Rr := xMeth hst rfl (by decide) S82 hf h
theorem M83 (hst : l.stackTraces = false) {as : List Value} {ah : xH} {Rr : xR → xH → Prop} (hf : xfit as (xnL 83)) (h : xW (T83 κ) (xMet l D dA sz0 κ) Rr (0, xEnt as (xnL 83), [], ah, xmc 83, xms 83)) : xMet l D dA sz0 κ 83 as ah Rr := xMeth hst rfl (by decide) S83 hf h
theorem M84 (hst : l.stackTraces = false) {as : List Value} {ah : xH} {Rr : xR → xH → Prop} (hf : xfit as (xnL 84)) (h : xW (T84 κ) (xMet l D dA sz0 κ) Rr (0, xEnt as (xnL 84), [], ah, xmc 84, xms 84)) : xMet l D dA sz0 κ 84 as ah Rr := xMeth hst rfl (by decide) S84 hf h
theorem M85 (hst : l.stackTraces = false) {as : List Value} {ah : xH} {Rr : xR → xH → Prop} (hf : xfit as (xnL 85)) (h : xW (T85 κ) (xMet l D dA sz0 κ) Rr (0, xEnt as (xnL 85), [], ah, xmc 85, xms 85)) : xMet l D dA sz0 κ 85 as ah Rr := xMeth hst rfl (by decide) S85 hf h
theorem M86 (hst : l.stackTraces = false) {as : List Value} {ah : xH} {Rr : xR → xH → Prop} (hf : xfit as (xnL 86)) (h : xW (T86 κ) (xMet l D dA sz0 κ) Rr (0, xEnt as (xnL 86), [], ah, xmc 86, xms 86)) : xMet l D dA sz0 κ 86 as ah Rr := xMeth hst rfl (by decide) S86 hf h
theorem M87 (hst : l.stackTraces = false) {as : List Value} {ah : xH} {Rr : xR → xH → Prop} (hf : xfit as (xnL 87)) (h : xW (T87 κ) (xMet l D dA sz0 κ) Rr (0, xEnt as (xnL 87), [], ah, xmc 87, xms 87)) : xMet l D dA sz0 κ 87 as ah Rr := xMeth hst rfl (by decide) S87 hf h
theorem M88 (hst : l.stackTraces = false) {as : List Value} {ah : xH} {Rr : xR → xH → Prop} (hf : xfit as (xnL 88)) (h : xW (T88 κ) (xMet l D dA sz0 κ) Rr (0, xEnt as (xnL 88), [], ah, xmc 88, xms 88)) : xMet l D dA sz0 κ 88 as ah Rr := xMeth hst rfl (by decide) S88 hf h
theorem M89 (hst : l.stackTraces = false) {as : List Value} {ah : xH} {Rr : xR → xH → Prop} (hf : xfit as (xnL 89)) (h : xW (T89 κ) (xMet l D dA sz0 κ) Rr (0, xEnt as (xnL 89), [], ah, xmc 89, xms 89)) : xMet l D dA sz0 κ 89 as ah Rr := xMeth hst rfl (by decide) S89 hf h
theorem M90 (hst : l.stackTraces = false) {as : List Value} {ah : xH} {Rr : xR → xH → Prop} (hf : xfit as (xnL 90)) (h : xW (T90 κ) (xMet l D dA sz0 κ) Rr (0, xEnt as (xnL 90), [], ah, xmc 90, xms 90)) : xMet l D dA sz0 κ 90 as ah Rr := xMeth hst rfl (by decide) S90 hf h
theorem M91 (hst : l.stackTraces = false) {as : List Value} {ah : xH} {Rr : xR → xH → Prop} (hf : xfit as (xnL 91)) (h : xW (T91 κ) (xMet l D dA sz0 κ) Rr (0, xEnt as (xnL 91), [], ah, xmc 91, xms 91)) : xMet l D dA sz0 κ 91 as ah Rr := xMeth hst rfl (by decide) S91 hf h
theorem M92 (hst : l.stackTraces = false) {as : List Value} {ah : xH} {Rr : xR → xH → Prop} (hf : xfit as (xnL 92)) (h : xW (T92 κ) (xMet l D dA sz0 κ) Rr (0, xEnt as (xnL 92), [], ah, xmc 92, xms 92)) : xMet l D dA sz0 κ 92 as ah Rr := xMeth hst rfl (by decide) S92 hf h
theorem M93 (hst : l.stackTraces = false) {as : List Value} {ah : xH} {Rr : xR → xH → Prop} (hf : xfit as (xnL 93)) (h : xW (T93 κ) (xMet l D dA sz0 κ) Rr (0, xEnt as (xnL 93), [], ah, xmc 93, xms 93)) : xMet l D dA sz0 κ 93 as ah Rr := xMeth hst rfl (by decide) S93 hf h
theorem M94 (hst : l.stackTraces = false) {as : List Value} {ah : xH} {Rr : xR → xH → Prop} (hf : xfit as (xnL 94)) (h : xW (T94 κ) (xMet l D dA sz0 κ) Rr (0, xEnt as (xnL 94), [], ah, xmc 94, xms 94)) : xMet l D dA sz0 κ 94 as ah Rr := xMeth hst rfl (by decide) S94 hf h
theorem M95 (hst : l.stackTraces = false) {as : List Value} {ah : xH} {Rr : xR → xH → Prop} (hf : xfit as (xnL 95)) (h : xW (T95 κ) (xMet l D dA sz0 κ) Rr (0, xEnt as (xnL 95), [], ah, xmc 95, xms 95)) : xMet l D dA sz0 κ 95 as ah Rr := xMeth hst rfl (by decide) S95 hf h
theorem M96 (hst : l.stackTraces = false) {as : List Value} {ah : xH} {Rr : xR → xH → Prop} (hf : xfit as (xnL 96)) (h : xW (T96 κ) (xMet l D dA sz0 κ) Rr (0, xEnt as (xnL 96), [], ah, xmc 96, xms 96)) : xMet l D dA sz0 κ 96 as ah Rr := xMeth hst rfl (by decide) S96 hf h
theorem M97 (hst : l.stackTraces = false) {as : List Value} {ah : xH} {Rr : xR → xH → Prop} (hf : xfit as (xnL 97)) (h : xW (T97 κ) (xMet l D dA sz0 κ) Rr (0, xEnt as (xnL 97), [], ah, xmc 97, xms 97)) : xMet l D dA sz0 κ 97 as ah Rr := xMeth hst rfl (by decide) S97 hf h
theorem M98 (hst : l.stackTraces = false) {as : List Value} {ah : xH} {Rr : xR → xH → Prop} (hf : xfit as (xnL 98)) (h : xW (T98 κ) (xMet l D dA sz0 κ) Rr (0, xEnt as (xnL 98), [], ah, xmc 98, xms 98)) : xMet l D dA sz0 κ 98 as ah Rr := xMeth hst rfl (by decide) S98 hf h
theorem M99 (hst : l.stackTraces = false) {as : List Value} {ah : xH} {Rr : xR → xH → Prop} (hf : xfit as (xnL 99)) (h : xW (T99 κ) (xMet l D dA sz0 κ) Rr (0, xEnt as (xnL 99), [], ah, xmc 99, xms 99)) : xMet l D dA sz0 κ 99 as ah Rr := xMeth hst rfl (by decide) S99 hf h
theorem M100 (hst : l.stackTraces = false) {as : List Value} {ah : xH} {Rr : xR → xH → Prop} (hf : xfit as (xnL 100)) (h : xW (T100 κ) (xMet l D dA sz0 κ) Rr (0, xEnt as (xnL 100), [], ah, xmc 100, xms 100)) : xMet l D dA sz0 κ 100 as ah Rr := xMeth hst rfl (by decide) S100 hf h
theorem M101 (hst : l.stackTraces = false) {as : List Value} {ah : xH} {Rr : xR → xH → Prop} (hf : xfit as (xnL 101)) (h : xW (T101 κ) (xMet l D dA sz0 κ) Rr (0, xEnt as (xnL 101), [], ah, xmc 101, xms 101)) : xMet l D dA sz0 κ 101 as ah Rr := xMeth hst rfl (by decide) S101 hf h
theorem M102 (hst : l.stackTraces = false) {as : List Value} {ah : xH} {Rr : xR → xH → Prop} (hf : xfit as (xnL 102)) (h : xW (T102 κ) (xMet l D dA sz0 κ) Rr (0, xEnt as (xnL 102), [], ah, xmc 102, xms 102)) : xMet l D dA sz0 κ 102 as ah Rr := xMeth hst rfl (by decide) S102 hf h
theorem M103 (hst : l.stackTraces = false) {as : List Value} {ah : xH} {Rr : xR → xH → Prop} (hf : xfit as (xnL 103)) (h : xW (T103 κ) (xMet l D dA sz0 κ) Rr (0, xEnt as (xnL 103), [], ah, xmc 103, xms 103)) : xMet l D dA sz0 κ 103 as ah Rr := xMeth hst rfl (by decide) S103 hf h
theorem M104 (hst : l.stackTraces = false) {as : List Value} {ah : xH} {Rr : xR → xH → Prop} (hf : xfit as (xnL 104)) (h : xW (T104 κ) (xMet l D dA sz0 κ) Rr (0, xEnt as (xnL 104), [], ah, xmc 104, xms 104)) : xMet l D dA sz0 κ 104 as ah Rr := xMeth hst rfl (by decide) S104 hf h
theorem M105 (hst : l.stackTraces = false) {as : List Value} {ah : xH} {Rr : xR → xH → Prop} (hf : xfit as (xnL 105)) (h : xW (T105 κ) (xMet l D dA sz0 κ) Rr (0, xEnt as (xnL 105), [], ah, xmc 105, xms 105)) : xMet l D dA sz0 κ 105 as ah Rr := xMeth hst rfl (by decide) S105 hf h
theorem M106 (hst : l.stackTraces = false) {as : List Value} {ah : xH} {Rr : xR → xH → Prop} (hf : xfit as (xnL 106)) (h : xW (T106 κ) (xMet l D dA sz0 κ) Rr (0, xEnt as (xnL 106), [], ah, xmc 106, xms 106)) : xMet l D dA sz0 κ 106 as ah Rr := xMeth hst rfl (by decide) S106 hf h
theorem M107 (hst : l.stackTraces = false) {as : List Value} {ah : xH} {Rr : xR → xH → Prop} (hf : xfit as (xnL 107)) (h : xW (T107 κ) (xMet l D dA sz0 κ) Rr (0, xEnt as (xnL 107), [], ah, xmc 107, xms 107)) : xMet l D dA sz0 κ 107 as ah Rr := xMeth hst rfl (by decide) S107 hf h
theorem M108 (hst : l.stackTraces = false) {as : List Value} {ah : xH} {Rr : xR → xH → Prop} (hf : xfit as (xnL 108)) (h : xW (T108 κ) (xMet l D dA sz0 κ) Rr (0, xEnt as (xnL 108), [], ah, xmc 108, xms 108)) : xMet l D dA sz0 κ 108 as ah Rr := xMeth hst rfl (by decide) S108 hf h
theorem M109 (hst : l.stackTraces = false) {as : List Value} {ah : xH} {Rr : xR → xH → Prop} (hf : xfit as (xnL 109)) (h : xW (T109 κ) (xMet l D dA sz0 κ) Rr (0, xEnt as (xnL 109), [], ah, xmc 109, xms 109)) : xMet l D dA sz0 κ 109 as ah Rr := xMeth hst rfl (by decide) S109 hf h
theorem M110 (hst : l.stackTraces = false) {as : List Value} {ah : xH} {Rr : xR → xH → Prop} (hf : xfit as (xnL 110)) (h : xW (T110 κ) (xMet l D dA sz0 κ) Rr (0, xEnt as (xnL 110), [], ah, xmc 110, xms 110)) : xMet l D dA sz0 κ 110 as ah Rr := xMeth hst rfl (by decide) S110 hf h
theorem M111 (hst : l.stackTraces = false) {as : List Value} {ah : xH} {Rr : xR → xH → Prop} (hf : xfit as (xnL 111)) (h : xW (T111 κ) (xMet l D dA sz0 κ) Rr (0, xEnt as (xnL 111), [], ah, xmc 111, xms 111)) : xMet l D dA sz0 κ 111 as ah Rr := xMeth hst rfl (by decide) S111 hf h
theorem M112 (hst : l.stackTraces = false) {as : List Value} {ah : xH} {Rr : xR → xH → Prop} (hf : xfit as (xnL 112)) (h : xW (T112 κ) (xMet l D dA sz0 κ) Rr (0, xEnt as (xnL 112), [], ah, xmc 112, xms 112)) : xMet l D dA sz0 κ 112 as ah Rr := xMeth hst rfl (by decide) S112 hf h
theorem M113 (hst : l.stackTraces = false) {as : List Value} {ah : xH} {Rr : xR → xH → Prop} (hf : xfit as (xnL 113)) (h : xW (T113 κ) (xMet l D dA sz0 κ) Rr (0, xEnt as (xnL 113), [], ah, xmc 113, xms 113)) : xMet l D dA sz0 κ 113 as ah Rr := xMeth hst rfl (by decide) S113 hf h
theorem M114 (hst : l.stackTraces = false) {as : List Value} {ah : xH} {Rr : xR → xH → Prop} (hf : xfit as (xnL 114)) (h : xW (T114 κ) (xMet l D dA sz0 κ) Rr (0, xEnt as (xnL 114), [], ah, xmc 114, xms 114)) : xMet l D dA sz0 κ 114 as ah Rr := xMeth hst rfl (by decide) S114 hf h
theorem M115 (hst : l.stackTraces = false) {as : List Value} {ah : xH} {Rr : xR → xH → Prop} (hf : xfit as (xnL 115)) (h : xW (T115 κ) (xMet l D dA sz0 κ) Rr (0, xEnt as (xnL 115), [], ah, xmc 115, xms 115)) : xMet l D dA sz0 κ 115 as ah Rr := xMeth hst rfl (by decide) S115 hf h
theorem M116 (hst : l.stackTraces = false) {as : List Value} {ah : xH} {Rr : xR → xH → Prop} (hf : xfit as (xnL 116)) (h : xW (T116 κ) (xMet l D dA sz0 κ) Rr (0, xEnt as (xnL 116), [], ah, xmc 116, xms 116)) : xMet l D dA sz0 κ 116 as ah Rr := xMeth hst rfl (by decide) S116 hf h
theorem M117 (hst : l.stackTraces = false) {as : List Value} {ah : xH} {Rr : xR → xH → Prop} (hf : xfit as (xnL 117)) (h : xW (T117 κ) (xMet l D dA sz0 κ) Rr (0, xEnt as (xnL 117), [], ah, xmc 117, xms 117)) : xMet l D dA sz0 κ 117 as ah Rr := xMeth hst rfl (by decide) S117 hf h
theorem M118 (hst : l.stackTraces = false) {as : List Value} {ah : xH} {Rr : xR → xH → Prop} (hf : xfit as (xnL 118)) (h : xW (T118 κ) (xMet l D dA sz0 κ) Rr (0, xEnt as (xnL 118), [], ah, xmc 118, xms 118)) : xMet l D dA sz0 κ 118 as ah Rr := xMeth hst rfl (by decide) S118 hf h
theorem M119 (hst : l.stackTraces = false) {as : List Value} {ah : xH} {Rr : xR → xH → Prop} (hf : xfit as (xnL 119)) (h : xW (T119 κ) (xMet l D dA sz0 κ) Rr (0, xEnt as (xnL 119), [], ah, xmc 119, xms 119)) : xMet l D dA sz0 κ 119 as ah Rr := xMeth hst rfl (by decide) S119 hf h
theorem M120 (hst : l.stackTraces = false) {as : List Value} {ah : xH} {Rr : xR → xH → Prop} (hf : xfit as (xnL 120)) (h : xW (T120 κ) (xMet l D dA sz0 κ) Rr (0, xEnt as (xnL 120), [], ah, xmc 120, xms 120)) : xMet l D dA sz0 κ 120 as ah Rr := xMeth hst rfl (by decide) S120 hf h
theorem M121 (hst : l.stackTraces = false) {as : List Value} {ah : xH} {Rr : xR → xH → Prop} (hf : xfit as (xnL 121)) (h : xW (T121 κ) (xMet l D dA sz0 κ) Rr (0, xEnt as (xnL 121), [], ah, xmc 121, xms 121)) : xMet l D dA sz0 κ 121 as ah Rr := xMeth hst rfl (by decide) S121 hf h
theorem M122 (hst : l.stackTraces = false) {as : List Value} {ah : xH} {Rr : xR → xH → Prop} (hf : xfit as (xnL 122)) (h : xW (T122 κ) (xMet l D dA sz0 κ) Rr (0, xEnt as (xnL 122), [], ah, xmc 122, xms 122)) : xMet l D dA sz0 κ 122 as ah Rr := xMeth hst rfl (by decide) S122 hf h
theorem M123 (hst : l.stackTraces = false) {as : List Value} {ah : xH} {Rr : xR → xH → Prop} (hf : xfit as (xnL 123)) (h : xW (T123 κ) (xMet l D dA sz0 κ) Rr (0, xEnt as (xnL 123), [], ah, xmc 123, xms 123)) : xMet l D dA sz0 κ 123 as ah Rr := xMeth hst rfl (by decide) S123 hf h
theorem M124 (hst : l.stackTraces = false) {as : List Value} {ah : xH} {Rr : xR → xH → Prop} (hf : xfit as (xnL 124)) (h : xW (T124 κ) (xMet l D dA sz0 κ) Rr (0, xEnt as (xnL 124), [], ah, xmc 124, xms 124)) : xMet l D dA sz0 κ 124 as ah Rr := xMeth hst rfl (by decide) S124 hf h
theorem M125 (hst : l.stackTraces = false) {as : List Value} {ah : xH} {Rr : xR → xH → Prop} (hf : xfit as (xnL 125)) (h : xW (T125 κ) (xMet l D dA sz0 κ) Rr (0, xEnt as (xnL 125), [], ah, xmc 125, xms 125)) : xMet l D dA sz0 κ 125 as ah Rr := xMeth hst rfl (by decide) S125 hf h
theorem M126 (hst : l.stackTraces = false) {as : List Value} {ah : xH} {Rr : xR → xH → Prop} (hf : xfit as (xnL 126)) (h : xW (T126 κ) (xMet l D dA sz0 κ) Rr (0, xEnt as (xnL 126), [], ah, xmc 126, xms 126)) : xMet l D dA sz0 κ 126 as ah Rr := xMeth hst rfl (by decide) S126 hf h
theorem M127 (hst : l.stackTraces = false) {as : List Value} {ah : xH} {Rr : xR → xH → Prop} (hf : xfit as (xnL 127)) (h : xW (T127 κ) (xMet l D dA sz0 κ) Rr (0, xEnt as (xnL 127), [], ah, xmc 127, xms 127)) : xMet l D dA sz0 κ 127 as ah Rr := xMeth hst rfl (by decide) S127 hf h
theorem M128 (hst : l.stackTraces = false) {as : List Value} {ah : xH} {Rr : xR → xH → Prop} (hf : xfit as (xnL 128)) (h : xW (T128 κ) (xMet l D dA sz0 κ) Rr (0, xEnt as (xnL 128), [], ah, xmc 128, xms 128)) : xMet l D dA sz0 κ 128 as ah Rr := xMeth hst rfl (by decide) S128 hf h
theorem M129 (hst : l.stackTraces = false) {as : List Value} {ah : xH} {Rr : xR → xH → Prop} (hf : xfit as (xnL 129)) (h : xW (T129 κ) (xMet l D dA sz0 κ) Rr (0, xEnt as (xnL 129), [], ah, xmc 129, xms 129)) : xMet l D dA sz0 κ 129 as ah Rr := xMeth hst rfl (by decide) S129 hf h
theorem M130 (hst : l.stackTraces = false) {as : List Value} {ah : xH} {Rr : xR → xH → Prop} (hf : xfit as (xnL 130)) (h : xW (T130 κ) (xMet l D dA sz0 κ) Rr (0, xEnt as (xnL 130), [], ah, xmc 130, xms 130)) : xMet l D dA sz0 κ 130 as ah Rr := xMeth hst rfl (by decide) S130 hf h
theorem M131 (hst : l.stackTraces = false) {as : List Value} {ah : xH} {Rr : xR → xH → Prop} (hf : xfit as (xnL 131)) (h : xW (T131 κ) (xMet l D dA sz0 κ) Rr (0, xEnt as (xnL 131), [], ah, xmc 131, xms 131)) : xMet l D dA sz0 κ 131 as ah Rr := xMeth hst rfl (by decide) S131 hf h
theorem M132 (hst : l.stackTraces = false) {as : List Value} {ah : xH} {Rr : xR → xH → Prop} (hf : xfit as (xnL 132)) (h : xW (T132 κ) (xMet l D dA sz0 κ) Rr (0, xEnt as (xnL 132), [], ah, xmc 132, xms 132)) : xMet l D dA sz0 κ 132 as ah Rr := xMeth hst rfl (by decide) S132 hf h
theorem M133 (hst : l.stackTraces = false) {as : List Value} {ah : xH} {Rr : xR → xH → Prop} (hf : xfit as (xnL 133)) (h : xW (T133 κ) (xMet l D dA sz0 κ) Rr (0, xEnt as (xnL 133), [], ah, xmc 133, xms 133)) : xMet l D dA sz0 κ 133 as ah Rr := xMeth hst rfl (by decide) S133 hf h
theorem M134 (hst : l.stackTraces = false) {as : List Value} {ah : xH} {Rr : xR → xH → Prop} (hf : xfit as (xnL 134)) (h : xW (T134 κ) (xMet l D dA sz0 κ) Rr (0, xEnt as (xnL 134), [], ah, xmc 134, xms 134)) : xMet l D dA sz0 κ 134 as ah Rr := xMeth hst rfl (by decide) S134 hf h
theorem M135 (hst : l.stackTraces = false) {as : List Value} {ah : xH} {Rr : xR → xH → Prop} (hf : xfit as (xnL 135)) (h : xW (T135 κ) (xMet l D dA sz0 κ) Rr (0, xEnt as (xnL 135), [], ah, xmc 135, xms 135)) : xMet l D dA sz0 κ 135 as ah Rr := xMeth hst rfl (by decide) S135 hf h
theorem M136 (hst : l.stackTraces = false) {as : List Value} {ah : xH} {Rr : xR → xH → Prop} (hf : xfit as (xnL 136)) (h : xW (T136 κ) (xMet l D dA sz0 κ) Rr (0, xEnt as (xnL 136), [], ah, xmc 136, xms 136)) : xMet l D dA sz0 κ 136 as ah Rr := xMeth hst rfl (by decide) S136 hf h
theorem M137 (hst : l.stackTraces = false) {as : List Value} {ah : xH} {Rr : xR → xH → Prop} (hf : xfit as (xnL 137)) (h : xW (T137 κ) (xMet l D dA sz0 κ) Rr (0, xEnt as (xnL 137), [], ah, xmc 137, xms 137)) : xMet l D dA sz0 κ 137 as ah Rr := xMeth hst rfl (by decide) S137 hf h
theorem M138 (hst : l.stackTraces = false) {as : List Value} {ah : xH} {Rr : xR → xH → Prop} (hf : xfit as (xnL 138)) (h : xW (T138 κ) (xMet l D dA sz0 κ) Rr (0, xEnt as (xnL 138), [], ah, xmc 138, xms 138)) : xMet l D dA sz0 κ 138 as ah Rr := xMethH hst rfl (by decide) S138 hf h
theorem M139 (hst : l.stackTraces = false) {as : List Value} {ah : xH} {Rr : xR → xH → Prop} (hf : xfit as (xnL 139)) (h : xW (T139 κ) (xMet l D dA sz0 κ) Rr (0, xEnt as (xnL 139), [], ah, xmc 139, xms 139)) : xMet l D dA sz0 κ 139 as ah Rr := xMethH hst rfl (by decide) S139 hf h
theorem M140 (hst : l.stackTraces = false) {as : List Value} {ah : xH} {Rr : xR → xH → Prop} (hf : xfit as (xnL 140)) (h : xW (T140 κ) (xMet l D dA sz0 κ) Rr (0, xEnt as (xnL 140), [], ah, xmc 140, xms 140)) : xMet l D dA sz0 κ 140 as ah Rr := xMeth hst rfl (by decide) S140 hf h
theorem M141 (hst : l.stackTraces = false) {as : List Value} {ah : xH} {Rr : xR → xH → Prop} (hf : xfit as (xnL 141)) (h : xW (T141 κ) (xMet l D dA sz0 κ) Rr (0, xEnt as (xnL 141), [], ah, xmc 141, xms 141)) : xMet l D dA sz0 κ 141 as ah Rr := xMeth hst rfl (by decide) S141 hf h
theorem M142 (hst : l.stackTraces = false) {as : List Value} {ah : xH} {Rr : xR → xH → Prop} (hf : xfit as (xnL 142)) (h : xW (T142 κ) (xMet l D dA sz0 κ) Rr (0, xEnt as (xnL 142), [], ah, xmc 142, xms 142)) : xMet l D dA sz0 κ 142 as ah Rr := xMeth hst rfl (by decide) S142 hf h
theorem M143 (hst : l.stackTraces = false) {as : List Value} {ah : xH} {Rr : xR → xH → Prop} (hf : xfit as (xnL 143)) (h : xW (T143 κ) (xMet l D dA sz0 κ) Rr (0, xEnt as (xnL 143), [], ah, xmc 143, xms 143)) : xMet l D dA sz0 κ 143 as ah Rr := xMeth hst rfl (by decide) S143 hf h
theorem M144 (hst : l.stackTraces = false) {as : List Value} {ah : xH} {Rr : xR → xH → Prop} (hf : xfit as (xnL 144)) (h : xW (T144 κ) (xMet l D dA sz0 κ) Rr (0, xEnt as (xnL 144), [], ah, xmc 144, xms 144)) : xMet l D dA sz0 κ 144 as ah Rr := xMeth hst rfl (by decide) S144 hf h
theorem M145 (hst : l.stackTraces = false) {as : List Value} {ah : xH} {Rr : xR → xH → Prop} (hf : xfit as (xnL 145)) (h : xW (T145 κ) (xMet l D dA sz0 κ) Rr (0, xEnt as (xnL 145), [], ah, xmc 145, xms 145)) : xMet l D dA sz0 κ 145 as ah Rr := xMeth hst rfl (by decide) S145 hf h
theorem M146 (hst : l.stackTraces = false) {as : List Value} {ah : xH} {Rr : xR → xH → Prop} (hf : xfit as (xnL 146)) (h : xW (T146 κ) (xMet l D dA sz0 κ) Rr (0, xEnt as (xnL 146), [], ah, xmc 146, xms 146)) : xMet l D dA sz0 κ 146 as ah Rr := xMeth hst rfl (by decide) S146 hf h
theorem M147 (hst : l.stackTraces = false) {as : List Value} {ah : xH} {Rr : xR → xH → Prop} (hf : xfit as (xnL 147)) (h : xW (T147 κ) (xMet l D dA sz0 κ) Rr (0, xEnt as (xnL 147), [], ah, xmc 147, xms 147)) : xMet l D dA sz0 κ 147 as ah Rr := xMeth hst rfl (by decide) S147 hf h
theorem M148 (hst : l.stackTraces = false) {as : List Value} {ah : xH} {Rr : xR → xH → Prop} (hf : xfit as (xnL 148)) (h : xW (T148 κ) (xMet l D dA sz0 κ) Rr (0, xEnt as (xnL 148), [], ah, xmc 148, xms 148)) : xMet l D dA sz0 κ 148 as ah Rr := xMeth hst rfl (by decide) S148 hf h
theorem M149 (hst : l.stackTraces = false) {as : List Value} {ah : xH} {Rr : xR → xH → Prop} (hf : xfit as (xnL 149)) (h : xW (T149 κ) (xMet l D dA sz0 κ) Rr (0, xEnt as (xnL 149), [], ah, xmc 149, xms 149)) : xMet l D dA sz0 κ 149 as ah Rr := xMeth hst rfl (by decide) S149 hf h
theorem M150 (hst : l.stackTraces = false) {as : List Value} {ah : xH} {Rr : xR → xH → Prop} (hf : xfit as (xnL 150)) (h : xW (T150 κ) (xMet l D dA sz0 κ) Rr (0, xEnt as (xnL 150), [], ah, xmc 150, xms 150)) : xMet l D dA sz0 κ 150 as ah Rr := xMeth hst rfl (by decide) S150 hf h
theorem xW_stuck {M : xM} {Rr : xR → xH → Prop} {f : xC} (h : xW (fun _ => xStuck) M Rr f) : False := xW_out h
theorem xTb_out (κ : Nat → Nat) (n : Nat) : xTb κ (n + 151) = fun _ => xStuck := by
  unfold xTb
  rw [List.getD_eq_getElem?_getD, List.getElem?_eq_none]
  · rfl
  · show 151 ≤ n + 151
    omega
def xOk (l : Launch) (D : va_G) (dA : Nat → ClassId) (sz0 : Nat) (κ : Nat → Nat) (y : Nat) : Prop := l.stackTraces = false → ∀ (as : List Value) (ah : xH) (Rr : xR → xH → Prop), xfit as (xnL y) → xW (xTb κ y) (xMet l D dA sz0 κ) Rr (0, xEnt as (xnL y), [], ah, xmc y, xms y) → xMet l D dA sz0 κ y as ah Rr
theorem xOk_0 : ∀ y, y < 0 → xOk l D dA sz0 κ y := lt_0
theorem Tb0 (κ : Nat → Nat) : xTb κ 0 = T0 κ := rfl
theorem xOk_1 : ∀ y, y < 1 → xOk l D dA sz0 κ y := lt_s xOk_0 (fun hst as ah Rr hf hw => M0 hst hf (by rw [Tb0] at hw; exact hw))
theorem Tb1 (κ : Nat → Nat) : xTb κ 1 = T1 κ := rfl
theorem xOk_2 : ∀ y, y < 2 → xOk l D dA sz0 κ y := lt_s xOk_1 (fun hst as ah Rr hf hw => M1 hst hf (by rw [Tb1] at hw; exact hw))
theorem Tb2 (κ : Nat → Nat) : xTb κ 2 = T2 κ := rfl
theorem xOk_3 : ∀ y, y < 3 → xOk l D dA sz0 κ y := lt_s xOk_2 (fun hst as ah Rr hf hw => M2 hst hf (by rw [Tb2] at hw; exact hw))
theorem Tb3 (κ : Nat → Nat) : xTb κ 3 = T3 κ := rfl
theorem xOk_4 : ∀ y, y < 4 → xOk l D dA sz0 κ y := lt_s xOk_3 (fun hst as ah Rr hf hw => M3 hst hf (by rw [Tb3] at hw; exact hw))
theorem Tb4 (κ : Nat → Nat) : xTb κ 4 = T4 κ := rfl
theorem xOk_5 : ∀ y, y < 5 → xOk l D dA sz0 κ y := lt_s xOk_4 (fun hst as ah Rr hf hw => M4 hst hf (by rw [Tb4] at hw; exact hw))
theorem Tb5 (κ : Nat → Nat) : xTb κ 5 = T5 κ := rfl
theorem xOk_6 : ∀ y, y < 6 → xOk l D dA sz0 κ y := lt_s xOk_5 (fun hst as ah Rr hf hw => M5 hst hf (by rw [Tb5] at hw; exact hw))
theorem Tb6 (κ : Nat → Nat) : xTb κ 6 = T6 κ := rfl
theorem xOk_7 : ∀ y, y < 7 → xOk l D dA sz0 κ y := lt_s xOk_6 (fun hst as ah Rr hf hw => M6 hst hf (by rw [Tb6] at hw; exact hw))
theorem Tb7 (κ : Nat → Nat) : xTb κ 7 = T7 κ := rfl
theorem xOk_8 : ∀ y, y < 8 → xOk l D dA sz0 κ y := lt_s xOk_7 (fun hst as ah Rr hf hw => M7 hst hf (by rw [Tb7] at hw; exact hw))
theorem Tb8 (κ : Nat → Nat) : xTb κ 8 = T8 κ := rfl
theorem xOk_9 : ∀ y, y < 9 → xOk l D dA sz0 κ y := lt_s xOk_8 (fun hst as ah Rr hf hw => M8 hst hf (by rw [Tb8] at hw; exact hw))
theorem Tb9 (κ : Nat → Nat) : xTb κ 9 = T9 κ := rfl
theorem xOk_10 : ∀ y, y < 10 → xOk l D dA sz0 κ y := lt_s xOk_9 (fun hst as ah Rr hf hw => M9 hst hf (by rw [Tb9] at hw; exact hw))
theorem Tb10 (κ : Nat → Nat) : xTb κ 10 = T10 κ := rfl
theorem xOk_11 : ∀ y, y < 11 → xOk l D dA sz0 κ y := lt_s xOk_10 (fun hst as ah Rr hf hw => M10 hst hf (by rw [Tb10] at hw; exact hw))
theorem Tb11 (κ : Nat → Nat) : xTb κ 11 = T11 κ := rfl
theorem xOk_12 : ∀ y, y < 12 → xOk l D dA sz0 κ y := lt_s xOk_11 (fun hst as ah Rr hf hw => M11 hst hf (by rw [Tb11] at hw; exact hw))
theorem Tb12 (κ : Nat → Nat) : xTb κ 12 = T12 κ := rfl
theorem xOk_13 : ∀ y, y < 13 → xOk l D dA sz0 κ y := lt_s xOk_12 (fun hst as ah Rr hf hw => M12 hst hf (by rw [Tb12] at hw; exact hw))
theorem Tb13 (κ : Nat → Nat) : xTb κ 13 = T13 κ := rfl
theorem xOk_14 : ∀ y, y < 14 → xOk l D dA sz0 κ y := lt_s xOk_13 (fun hst as ah Rr hf hw => M13 hst hf (by rw [Tb13] at hw; exact hw))
theorem Tb14 (κ : Nat → Nat) : xTb κ 14 = T14 κ := rfl
theorem xOk_15 : ∀ y, y < 15 → xOk l D dA sz0 κ y := lt_s xOk_14 (fun hst as ah Rr hf hw => M14 hst hf (by rw [Tb14] at hw; exact hw))
theorem Tb15 (κ : Nat → Nat) : xTb κ 15 = T15 κ := rfl
theorem xOk_16 : ∀ y, y < 16 → xOk l D dA sz0 κ y := lt_s xOk_15 (fun hst as ah Rr hf hw => M15 hst hf (by rw [Tb15] at hw; exact hw))
theorem Tb16 (κ : Nat → Nat) : xTb κ 16 = T16 κ := rfl
theorem xOk_17 : ∀ y, y < 17 → xOk l D dA sz0 κ y := lt_s xOk_16 (fun hst as ah Rr hf hw => M16 hst hf (by rw [Tb16] at hw; exact hw))
theorem Tb17 (κ : Nat → Nat) : xTb κ 17 = T17 κ := rfl
theorem xOk_18 : ∀ y, y < 18 → xOk l D dA sz0 κ y := lt_s xOk_17 (fun hst as ah Rr hf hw => M17 hst hf (by rw [Tb17] at hw; exact hw))
theorem Tb18 (κ : Nat → Nat) : xTb κ 18 = T18 κ := rfl
theorem xOk_19 : ∀ y, y < 19 → xOk l D dA sz0 κ y := lt_s xOk_18 (fun hst as ah Rr hf hw => M18 hst hf (by rw [Tb18] at hw; exact hw))
theorem Tb19 (κ : Nat → Nat) : xTb κ 19 = T19 κ := rfl
theorem xOk_20 : ∀ y, y < 20 → xOk l D dA sz0 κ y := lt_s xOk_19 (fun hst as ah Rr hf hw => M19 hst hf (by rw [Tb19] at hw; exact hw))
theorem Tb20 (κ : Nat → Nat) : xTb κ 20 = T20 κ := rfl
theorem xOk_21 : ∀ y, y < 21 → xOk l D dA sz0 κ y := lt_s xOk_20 (fun hst as ah Rr hf hw => M20 hst hf (by rw [Tb20] at hw; exact hw))
theorem Tb21 (κ : Nat → Nat) : xTb κ 21 = T21 κ := rfl
theorem xOk_22 : ∀ y, y < 22 → xOk l D dA sz0 κ y := lt_s xOk_21 (fun hst as ah Rr hf hw => M21 hst hf (by rw [Tb21] at hw; exact hw))
theorem Tb22 (κ : Nat → Nat) : xTb κ 22 = T22 κ := rfl
theorem xOk_23 : ∀ y, y < 23 → xOk l D dA sz0 κ y := lt_s xOk_22 (fun hst as ah Rr hf hw => M22 hst hf (by rw [Tb22] at hw; exact hw))
theorem Tb23 (κ : Nat → Nat) : xTb κ 23 = T23 κ := rfl
theorem xOk_24 : ∀ y, y < 24 → xOk l D dA sz0 κ y := lt_s xOk_23 (fun hst as ah Rr hf hw => M23 hst hf (by rw [Tb23] at hw; exact hw))
theorem Tb24 (κ : Nat → Nat) : xTb κ 24 = T24 κ := rfl
theorem xOk_25 : ∀ y, y < 25 → xOk l D dA sz0 κ y := lt_s xOk_24 (fun hst as ah Rr hf hw => M24 hst hf (by rw [Tb24] at hw; exact hw))
theorem Tb25 (κ : Nat → Nat) : xTb κ 25 = T25 κ := rfl
theorem xOk_26 : ∀ y, y < 26 → xOk l D dA sz0 κ y := lt_s xOk_25 (fun hst as ah Rr hf hw => M25 hst hf (by rw [Tb25] at hw; exact hw))
theorem Tb26 (κ : Nat → Nat) : xTb κ 26 = T26 κ := rfl
theorem xOk_27 : ∀ y, y < 27 → xOk l D dA sz0 κ y := lt_s xOk_26 (fun hst as ah Rr hf hw => M26 hst hf (by rw [Tb26] at hw; exact hw))
theorem Tb27 (κ : Nat → Nat) : xTb κ 27 = T27 κ := rfl
theorem xOk_28 : ∀ y, y < 28 → xOk l D dA sz0 κ y := lt_s xOk_27 (fun hst as ah Rr hf hw => M27 hst hf (by rw [Tb27] at hw; exact hw))
theorem Tb28 (κ : Nat → Nat) : xTb κ 28 = T28 κ := rfl
theorem xOk_29 : ∀ y, y < 29 → xOk l D dA sz0 κ y := lt_s xOk_28 (fun hst as ah Rr hf hw => M28 hst hf (by rw [Tb28] at hw; exact hw))
theorem Tb29 (κ : Nat → Nat) : xTb κ 29 = T29 κ := rfl
theorem xOk_30 : ∀ y, y < 30 → xOk l D dA sz0 κ y := lt_s xOk_29 (fun hst as ah Rr hf hw => M29 hst hf (by rw [Tb29] at hw; exact hw))
theorem Tb30 (κ : Nat → Nat) : xTb κ 30 = T30 κ := rfl
theorem xOk_31 : ∀ y, y < 31 → xOk l D dA sz0 κ y := lt_s xOk_30 (fun hst as ah Rr hf hw => M30 hst hf (by rw [Tb30] at hw; exact hw))
theorem Tb31 (κ : Nat → Nat) : xTb κ 31 = T31 κ := rfl
theorem xOk_32 : ∀ y, y < 32 → xOk l D dA sz0 κ y := lt_s xOk_31 (fun hst as ah Rr hf hw => M31 hst hf (by rw [Tb31] at hw; exact hw))
theorem Tb32 (κ : Nat → Nat) : xTb κ 32 = T32 κ := rfl
theorem xOk_33 : ∀ y, y < 33 → xOk l D dA sz0 κ y := lt_s xOk_32 (fun hst as ah Rr hf hw => M32 hst hf (by rw [Tb32] at hw; exact hw))
theorem Tb33 (κ : Nat → Nat) : xTb κ 33 = T33 κ := rfl
theorem xOk_34 : ∀ y, y < 34 → xOk l D dA sz0 κ y := lt_s xOk_33 (fun hst as ah Rr hf hw => M33 hst hf (by rw [Tb33] at hw; exact hw))
theorem Tb34 (κ : Nat → Nat) : xTb κ 34 = T34 κ := rfl
theorem xOk_35 : ∀ y, y < 35 → xOk l D dA sz0 κ y := lt_s xOk_34 (fun hst as ah Rr hf hw => M34 hst hf (by rw [Tb34] at hw; exact hw))
theorem Tb35 (κ : Nat → Nat) : xTb κ 35 = T35 κ := rfl
theorem xOk_36 : ∀ y, y < 36 → xOk l D dA sz0 κ y := lt_s xOk_35 (fun hst as ah Rr hf hw => M35 hst hf (by rw [Tb35] at hw; exact hw))
theorem Tb36 (κ : Nat → Nat) : xTb κ 36 = T36 κ := rfl
theorem xOk_37 : ∀ y, y < 37 → xOk l D dA sz0 κ y := lt_s xOk_36 (fun hst as ah Rr hf hw => M36 hst hf (by rw [Tb36] at hw; exact hw))
theorem Tb37 (κ : Nat → Nat) : xTb κ 37 = T37 κ := rfl
theorem xOk_38 : ∀ y, y < 38 → xOk l D dA sz0 κ y := lt_s xOk_37 (fun hst as ah Rr hf hw => M37 hst hf (by rw [Tb37] at hw; exact hw))
theorem Tb38 (κ : Nat → Nat) : xTb κ 38 = T38 κ := rfl
theorem xOk_39 : ∀ y, y < 39 → xOk l D dA sz0 κ y := lt_s xOk_38 (fun hst as ah Rr hf hw => M38 hst hf (by rw [Tb38] at hw; exact hw))
theorem Tb39 (κ : Nat → Nat) : xTb κ 39 = T39 κ := rfl
theorem xOk_40 : ∀ y, y < 40 → xOk l D dA sz0 κ y := lt_s xOk_39 (fun hst as ah Rr hf hw => M39 hst hf (by rw [Tb39] at hw; exact hw))
theorem Tb40 (κ : Nat → Nat) : xTb κ 40 = T40 κ := rfl
theorem xOk_41 : ∀ y, y < 41 → xOk l D dA sz0 κ y := lt_s xOk_40 (fun hst as ah Rr hf hw => M40 hst hf (by rw [Tb40] at hw; exact hw))
theorem Tb41 (κ : Nat → Nat) : xTb κ 41 = T41 κ := rfl
theorem xOk_42 : ∀ y, y < 42 → xOk l D dA sz0 κ y := lt_s xOk_41 (fun hst as ah Rr hf hw => M41 hst hf (by rw [Tb41] at hw; exact hw))
theorem Tb42 (κ : Nat → Nat) : xTb κ 42 = T42 κ := rfl
theorem xOk_43 : ∀ y, y < 43 → xOk l D dA sz0 κ y := lt_s xOk_42 (fun hst as ah Rr hf hw => M42 hst hf (by rw [Tb42] at hw; exact hw))
theorem Tb43 (κ : Nat → Nat) : xTb κ 43 = T43 κ := rfl
theorem xOk_44 : ∀ y, y < 44 → xOk l D dA sz0 κ y := lt_s xOk_43 (fun hst as ah Rr hf hw => M43 hst hf (by rw [Tb43] at hw; exact hw))
theorem Tb44 (κ : Nat → Nat) : xTb κ 44 = T44 κ := rfl
theorem xOk_45 : ∀ y, y < 45 → xOk l D dA sz0 κ y := lt_s xOk_44 (fun hst as ah Rr hf hw => M44 hst hf (by rw [Tb44] at hw; exact hw))
theorem Tb45 (κ : Nat → Nat) : xTb κ 45 = T45 κ := rfl
theorem xOk_46 : ∀ y, y < 46 → xOk l D dA sz0 κ y := lt_s xOk_45 (fun hst as ah Rr hf hw => M45 hst hf (by rw [Tb45] at hw; exact hw))
theorem Tb46 (κ : Nat → Nat) : xTb κ 46 = T46 κ := rfl
theorem xOk_47 : ∀ y, y < 47 → xOk l D dA sz0 κ y := lt_s xOk_46 (fun hst as ah Rr hf hw => M46 hst hf (by rw [Tb46] at hw; exact hw))
theorem Tb47 (κ : Nat → Nat) : xTb κ 47 = T47 κ := rfl
theorem xOk_48 : ∀ y, y < 48 → xOk l D dA sz0 κ y := lt_s xOk_47 (fun hst as ah Rr hf hw => M47 hst hf (by rw [Tb47] at hw; exact hw))
theorem Tb48 (κ : Nat → Nat) : xTb κ 48 = T48 κ := rfl
theorem xOk_49 : ∀ y, y < 49 → xOk l D dA sz0 κ y := lt_s xOk_48 (fun hst as ah Rr hf hw => M48 hst hf (by rw [Tb48] at hw; exact hw))
theorem Tb49 (κ : Nat → Nat) : xTb κ 49 = T49 κ := rfl
theorem xOk_50 : ∀ y, y < 50 → xOk l D dA sz0 κ y := lt_s xOk_49 (fun hst as ah Rr hf hw => M49 hst hf (by rw [Tb49] at hw; exact hw))
theorem Tb50 (κ : Nat → Nat) : xTb κ 50 = T50 κ := rfl
theorem xOk_51 : ∀ y, y < 51 → xOk l D dA sz0 κ y := lt_s xOk_50 (fun hst as ah Rr hf hw => M50 hst hf (by rw [Tb50] at hw; exact hw))
theorem Tb51 (κ : Nat → Nat) : xTb κ 51 = T51 κ := rfl
theorem xOk_52 : ∀ y, y < 52 → xOk l D dA sz0 κ y := lt_s xOk_51 (fun hst as ah Rr hf hw => M51 hst hf (by rw [Tb51] at hw; exact hw))
theorem Tb52 (κ : Nat → Nat) : xTb κ 52 = T52 κ := rfl
theorem xOk_53 : ∀ y, y < 53 → xOk l D dA sz0 κ y := lt_s xOk_52 (fun hst as ah Rr hf hw => M52 hst hf (by rw [Tb52] at hw; exact hw))
theorem Tb53 (κ : Nat → Nat) : xTb κ 53 = T53 κ := rfl
theorem xOk_54 : ∀ y, y < 54 → xOk l D dA sz0 κ y := lt_s xOk_53 (fun hst as ah Rr hf hw => M53 hst hf (by rw [Tb53] at hw; exact hw))
theorem Tb54 (κ : Nat → Nat) : xTb κ 54 = T54 κ := rfl
theorem xOk_55 : ∀ y, y < 55 → xOk l D dA sz0 κ y := lt_s xOk_54 (fun hst as ah Rr hf hw => M54 hst hf (by rw [Tb54] at hw; exact hw))
theorem Tb55 (κ : Nat → Nat) : xTb κ 55 = T55 κ := rfl
theorem xOk_56 : ∀ y, y < 56 → xOk l D dA sz0 κ y := lt_s xOk_55 (fun hst as ah Rr hf hw => M55 hst hf (by rw [Tb55] at hw; exact hw))
theorem Tb56 (κ : Nat → Nat) : xTb κ 56 = T56 κ := rfl
theorem xOk_57 : ∀ y, y < 57 → xOk l D dA sz0 κ y := lt_s xOk_56 (fun hst as ah Rr hf hw => M56 hst hf (by rw [Tb56] at hw; exact hw))
theorem Tb57 (κ : Nat → Nat) : xTb κ 57 = T57 κ := rfl
theorem xOk_58 : ∀ y, y < 58 → xOk l D dA sz0 κ y := lt_s xOk_57 (fun hst as ah Rr hf hw => M57 hst hf (by rw [Tb57] at hw; exact hw))
theorem Tb58 (κ : Nat → Nat) : xTb κ 58 = T58 κ := rfl
theorem xOk_59 : ∀ y, y < 59 → xOk l D dA sz0 κ y := lt_s xOk_58 (fun hst as ah Rr hf hw => M58 hst hf (by rw [Tb58] at hw; exact hw))
theorem Tb59 (κ : Nat → Nat) : xTb κ 59 = T59 κ := rfl
theorem xOk_60 : ∀ y, y < 60 → xOk l D dA sz0 κ y := lt_s xOk_59 (fun hst as ah Rr hf hw => M59 hst hf (by rw [Tb59] at hw; exact hw))
theorem Tb60 (κ : Nat → Nat) : xTb κ 60 = T60 κ := rfl
theorem xOk_61 : ∀ y, y < 61 → xOk l D dA sz0 κ y := lt_s xOk_60 (fun hst as ah Rr hf hw => M60 hst hf (by rw [Tb60] at hw; exact hw))
theorem Tb61 (κ : Nat → Nat) : xTb κ 61 = T61 κ := rfl
theorem xOk_62 : ∀ y, y < 62 → xOk l D dA sz0 κ y := lt_s xOk_61 (fun hst as ah Rr hf hw => M61 hst hf (by rw [Tb61] at hw; exact hw))
theorem Tb62 (κ : Nat → Nat) : xTb κ 62 = T62 κ := rfl
theorem xOk_63 : ∀ y, y < 63 → xOk l D dA sz0 κ y := lt_s xOk_62 (fun hst as ah Rr hf hw => M62 hst hf (by rw [Tb62] at hw; exact hw))
theorem Tb63 (κ : Nat → Nat) : xTb κ 63 = T63 κ := rfl
theorem xOk_64 : ∀ y, y < 64 → xOk l D dA sz0 κ y := lt_s xOk_63 (fun hst as ah Rr hf hw => M63 hst hf (by rw [Tb63] at hw; exact hw))
theorem Tb64 (κ : Nat → Nat) : xTb κ 64 = T64 κ := rfl
theorem xOk_65 : ∀ y, y < 65 → xOk l D dA sz0 κ y := lt_s xOk_64 (fun hst as ah Rr hf hw => M64 hst hf (by rw [Tb64] at hw; exact hw))
theorem Tb65 (κ : Nat → Nat) : xTb κ 65 = T65 κ := rfl
theorem xOk_66 : ∀ y, y < 66 → xOk l D dA sz0 κ y := lt_s xOk_65 (fun hst as ah Rr hf hw => M65 hst hf (by rw [Tb65] at hw; exact hw))
theorem Tb66 (κ : Nat → Nat) : xTb κ 66 = T66 κ := rfl
theorem xOk_67 : ∀ y, y < 67 → xOk l D dA sz0 κ y := lt_s xOk_66 (fun hst as ah Rr hf hw => M66 hst hf (by rw [Tb66] at hw; exact hw))
theorem Tb67 (κ : Nat → Nat) : xTb κ 67 = T67 κ := rfl
theorem xOk_68 : ∀ y, y < 68 → xOk l D dA sz0 κ y := lt_s xOk_67 (fun hst as ah Rr hf hw => M67 hst hf (by rw [Tb67] at hw; exact hw))
theorem Tb68 (κ : Nat → Nat) : xTb κ 68 = T68 κ := rfl
theorem xOk_69 : ∀ y, y < 69 → xOk l D dA sz0 κ y := lt_s xOk_68 (fun hst as ah Rr hf hw => M68 hst hf (by rw [Tb68] at hw; exact hw))
theorem Tb69 (κ : Nat → Nat) : xTb κ 69 = T69 κ := rfl
theorem xOk_70 : ∀ y, y < 70 → xOk l D dA sz0 κ y := lt_s xOk_69 (fun hst as ah Rr hf hw => M69 hst hf (by rw [Tb69] at hw; exact hw))
theorem Tb70 (κ : Nat → Nat) : xTb κ 70 = T70 κ := rfl
theorem xOk_71 : ∀ y, y < 71 → xOk l D dA sz0 κ y := lt_s xOk_70 (fun hst as ah Rr hf hw => M70 hst hf (by rw [Tb70] at hw; exact hw))
theorem Tb71 (κ : Nat → Nat) : xTb κ 71 = T71 κ := rfl
theorem xOk_72 : ∀ y, y < 72 → xOk l D dA sz0 κ y := lt_s xOk_71 (fun hst as ah Rr hf hw => M71 hst hf (by rw [Tb71] at hw; exact hw))
theorem Tb72 (κ : Nat → Nat) : xTb κ 72 = T72 κ := rfl
theorem xOk_73 : ∀ y, y < 73 → xOk l D dA sz0 κ y := lt_s xOk_72 (fun hst as ah Rr hf hw => M72 hst hf (by rw [Tb72] at hw; exact hw))
theorem Tb73 (κ : Nat → Nat) : xTb κ 73 = T73 κ := rfl
theorem xOk_74 : ∀ y, y < 74 → xOk l D dA sz0 κ y := lt_s xOk_73 (fun hst as ah Rr hf hw => M73 hst hf (by rw [Tb73] at hw; exact hw))
theorem Tb74 (κ : Nat → Nat) : xTb κ 74 = T74 κ := rfl
theorem xOk_75 : ∀ y, y < 75 → xOk l D dA sz0 κ y := lt_s xOk_74 (fun hst as ah Rr hf hw => M74 hst hf (by rw [Tb74] at hw; exact hw))
theorem Tb75 (κ : Nat → Nat) : xTb κ 75 = T75 κ := rfl
theorem xOk_76 : ∀ y, y < 76 → xOk l D dA sz0 κ y := lt_s xOk_75 (fun hst as ah Rr hf hw => M75 hst hf (by rw [Tb75] at hw; exact hw))
theorem Tb76 (κ : Nat → Nat) : xTb κ 76 = T76 κ := rfl
theorem xOk_77 : ∀ y, y < 77 → xOk l D dA sz0 κ y := lt_s xOk_76 (fun hst as ah Rr hf hw => M76 hst hf (by rw [Tb76] at hw; exact hw))
theorem Tb77 (κ : Nat → Nat) : xTb κ 77 = T77 κ := rfl
theorem xOk_78 : ∀ y, y < 78 → xOk l D dA sz0 κ y := lt_s xOk_77 (fun hst as ah Rr hf hw => M77 hst hf (by rw [Tb77] at hw; exact hw))
theorem Tb78 (κ : Nat → Nat) : xTb κ 78 = T78 κ := rfl
theorem xOk_79 : ∀ y, y < 79 → xOk l D dA sz0 κ y := lt_s xOk_78 (fun hst as ah Rr hf hw => M78 hst hf (by rw [Tb78] at hw; exact hw))
theorem Tb79 (κ : Nat → Nat) : xTb κ 79 = T79 κ := rfl
theorem xOk_80 : ∀ y, y < 80 → xOk l D dA sz0 κ y := lt_s xOk_79 (fun hst as ah Rr hf hw => M79 hst hf (by rw [Tb79] at hw; exact hw))
theorem Tb80 (κ : Nat → Nat) : xTb κ 80 = T80 κ := rfl
theorem xOk_81 : ∀ y, y < 81 → xOk l D dA sz0 κ y := lt_s xOk_80 (fun hst as ah Rr hf hw => M80 hst hf (by rw [Tb80] at hw; exact hw))
theorem Tb81 (κ : Nat → Nat) : xTb κ 81 = T81 κ := rfl
theorem xOk_82 : ∀ y, y < 82 → xOk l D dA sz0 κ y := lt_s xOk_81 (fun hst as ah Rr hf hw => M81 hst hf (by rw [Tb81] at hw; exact hw))
theorem Tb82 (κ : Nat → Nat) : xTb κ 82 = T82 κ := rfl
theorem xOk_83 : ∀ y, y < 83 → xOk l D dA sz0 κ y := lt_s xOk_82 (fun hst as ah Rr hf hw => M82 hst hf (by rw [Tb82] at hw; exact hw))
theorem Tb83 (κ : Nat → Nat) : xTb κ 83 = T83 κ := rfl
theorem xOk_84 : ∀ y, y < 84 → xOk l D dA sz0 κ y := lt_s xOk_83 (fun hst as ah Rr hf hw => M83 hst hf (by rw [Tb83] at hw; exact hw))
theorem Tb84 (κ : Nat → Nat) : xTb κ 84 = T84 κ := rfl
theorem xOk_85 : ∀ y, y < 85 → xOk l D dA sz0 κ y := lt_s xOk_84 (fun hst as ah Rr hf hw => M84 hst hf (by rw [Tb84] at hw; exact hw))
theorem Tb85 (κ : Nat → Nat) : xTb κ 85 = T85 κ := rfl
theorem xOk_86 : ∀ y, y < 86 → xOk l D dA sz0 κ y := lt_s xOk_85 (fun hst as ah Rr hf hw => M85 hst hf (by rw [Tb85] at hw; exact hw))
theorem Tb86 (κ : Nat → Nat) : xTb κ 86 = T86 κ := rfl
theorem xOk_87 : ∀ y, y < 87 → xOk l D dA sz0 κ y := lt_s xOk_86 (fun hst as ah Rr hf hw => M86 hst hf (by rw [Tb86] at hw; exact hw))
theorem Tb87 (κ : Nat → Nat) : xTb κ 87 = T87 κ := rfl
theorem xOk_88 : ∀ y, y < 88 → xOk l D dA sz0 κ y := lt_s xOk_87 (fun hst as ah Rr hf hw => M87 hst hf (by rw [Tb87] at hw; exact hw))
theorem Tb88 (κ : Nat → Nat) : xTb κ 88 = T88 κ := rfl
theorem xOk_89 : ∀ y, y < 89 → xOk l D dA sz0 κ y := lt_s xOk_88 (fun hst as ah Rr hf hw => M88 hst hf (by rw [Tb88] at hw; exact hw))
theorem Tb89 (κ : Nat → Nat) : xTb κ 89 = T89 κ := rfl
theorem xOk_90 : ∀ y, y < 90 → xOk l D dA sz0 κ y := lt_s xOk_89 (fun hst as ah Rr hf hw => M89 hst hf (by rw [Tb89] at hw; exact hw))
theorem Tb90 (κ : Nat → Nat) : xTb κ 90 = T90 κ := rfl
theorem xOk_91 : ∀ y, y < 91 → xOk l D dA sz0 κ y := lt_s xOk_90 (fun hst as ah Rr hf hw => M90 hst hf (by rw [Tb90] at hw; exact hw))
theorem Tb91 (κ : Nat → Nat) : xTb κ 91 = T91 κ := rfl
theorem xOk_92 : ∀ y, y < 92 → xOk l D dA sz0 κ y := lt_s xOk_91 (fun hst as ah Rr hf hw => M91 hst hf (by rw [Tb91] at hw; exact hw))
theorem Tb92 (κ : Nat → Nat) : xTb κ 92 = T92 κ := rfl
theorem xOk_93 : ∀ y, y < 93 → xOk l D dA sz0 κ y := lt_s xOk_92 (fun hst as ah Rr hf hw => M92 hst hf (by rw [Tb92] at hw; exact hw))
theorem Tb93 (κ : Nat → Nat) : xTb κ 93 = T93 κ := rfl
theorem xOk_94 : ∀ y, y < 94 → xOk l D dA sz0 κ y := lt_s xOk_93 (fun hst as ah Rr hf hw => M93 hst hf (by rw [Tb93] at hw; exact hw))
theorem Tb94 (κ : Nat → Nat) : xTb κ 94 = T94 κ := rfl
theorem xOk_95 : ∀ y, y < 95 → xOk l D dA sz0 κ y := lt_s xOk_94 (fun hst as ah Rr hf hw => M94 hst hf (by rw [Tb94] at hw; exact hw))
theorem Tb95 (κ : Nat → Nat) : xTb κ 95 = T95 κ := rfl
theorem xOk_96 : ∀ y, y < 96 → xOk l D dA sz0 κ y := lt_s xOk_95 (fun hst as ah Rr hf hw => M95 hst hf (by rw [Tb95] at hw; exact hw))
theorem Tb96 (κ : Nat → Nat) : xTb κ 96 = T96 κ := rfl
theorem xOk_97 : ∀ y, y < 97 → xOk l D dA sz0 κ y := lt_s xOk_96 (fun hst as ah Rr hf hw => M96 hst hf (by rw [Tb96] at hw; exact hw))
theorem Tb97 (κ : Nat → Nat) : xTb κ 97 = T97 κ := rfl
theorem xOk_98 : ∀ y, y < 98 → xOk l D dA sz0 κ y := lt_s xOk_97 (fun hst as ah Rr hf hw => M97 hst hf (by rw [Tb97] at hw; exact hw))
theorem Tb98 (κ : Nat → Nat) : xTb κ 98 = T98 κ := rfl
theorem xOk_99 : ∀ y, y < 99 → xOk l D dA sz0 κ y := lt_s xOk_98 (fun hst as ah Rr hf hw => M98 hst hf (by rw [Tb98] at hw; exact hw))
theorem Tb99 (κ : Nat → Nat) : xTb κ 99 = T99 κ := rfl
theorem xOk_100 : ∀ y, y < 100 → xOk l D dA sz0 κ y := lt_s xOk_99 (fun hst as ah Rr hf hw => M99 hst hf (by rw [Tb99] at hw; exact hw))
theorem Tb100 (κ : Nat → Nat) : xTb κ 100 = T100 κ := rfl
theorem xOk_101 : ∀ y, y < 101 → xOk l D dA sz0 κ y := lt_s xOk_100 (fun hst as ah Rr hf hw => M100 hst hf (by rw [Tb100] at hw; exact hw))
theorem Tb101 (κ : Nat → Nat) : xTb κ 101 = T101 κ := rfl
theorem xOk_102 : ∀ y, y < 102 → xOk l D dA sz0 κ y := lt_s xOk_101 (fun hst as ah Rr hf hw => M101 hst hf (by rw [Tb101] at hw; exact hw))
theorem Tb102 (κ : Nat → Nat) : xTb κ 102 = T102 κ := rfl
theorem xOk_103 : ∀ y, y < 103 → xOk l D dA sz0 κ y := lt_s xOk_102 (fun hst as ah Rr hf hw => M102 hst hf (by rw [Tb102] at hw; exact hw))
theorem Tb103 (κ : Nat → Nat) : xTb κ 103 = T103 κ := rfl
theorem xOk_104 : ∀ y, y < 104 → xOk l D dA sz0 κ y := lt_s xOk_103 (fun hst as ah Rr hf hw => M103 hst hf (by rw [Tb103] at hw; exact hw))
theorem Tb104 (κ : Nat → Nat) : xTb κ 104 = T104 κ := rfl
theorem xOk_105 : ∀ y, y < 105 → xOk l D dA sz0 κ y := lt_s xOk_104 (fun hst as ah Rr hf hw => M104 hst hf (by rw [Tb104] at hw; exact hw))
theorem Tb105 (κ : Nat → Nat) : xTb κ 105 = T105 κ := rfl
theorem xOk_106 : ∀ y, y < 106 → xOk l D dA sz0 κ y := lt_s xOk_105 (fun hst as ah Rr hf hw => M105 hst hf (by rw [Tb105] at hw; exact hw))
theorem Tb106 (κ : Nat → Nat) : xTb κ 106 = T106 κ := rfl
theorem xOk_107 : ∀ y, y < 107 → xOk l D dA sz0 κ y := lt_s xOk_106 (fun hst as ah Rr hf hw => M106 hst hf (by rw [Tb106] at hw; exact hw))
theorem Tb107 (κ : Nat → Nat) : xTb κ 107 = T107 κ := rfl
theorem xOk_108 : ∀ y, y < 108 → xOk l D dA sz0 κ y := lt_s xOk_107 (fun hst as ah Rr hf hw => M107 hst hf (by rw [Tb107] at hw; exact hw))
theorem Tb108 (κ : Nat → Nat) : xTb κ 108 = T108 κ := rfl
theorem xOk_109 : ∀ y, y < 109 → xOk l D dA sz0 κ y := lt_s xOk_108 (fun hst as ah Rr hf hw => M108 hst hf (by rw [Tb108] at hw; exact hw))
theorem Tb109 (κ : Nat → Nat) : xTb κ 109 = T109 κ := rfl
theorem xOk_110 : ∀ y, y < 110 → xOk l D dA sz0 κ y := lt_s xOk_109 (fun hst as ah Rr hf hw => M109 hst hf (by rw [Tb109] at hw; exact hw))
theorem Tb110 (κ : Nat → Nat) : xTb κ 110 = T110 κ := rfl
theorem xOk_111 : ∀ y, y < 111 → xOk l D dA sz0 κ y := lt_s xOk_110 (fun hst as ah Rr hf hw => M110 hst hf (by rw [Tb110] at hw; exact hw))
theorem Tb111 (κ : Nat → Nat) : xTb κ 111 = T111 κ := rfl
theorem xOk_112 : ∀ y, y < 112 → xOk l D dA sz0 κ y := lt_s xOk_111 (fun hst as ah Rr hf hw => M111 hst hf (by rw [Tb111] at hw; exact hw))
theorem Tb112 (κ : Nat → Nat) : xTb κ 112 = T112 κ := rfl
theorem xOk_113 : ∀ y, y < 113 → xOk l D dA sz0 κ y := lt_s xOk_112 (fun hst as ah Rr hf hw => M112 hst hf (by rw [Tb112] at hw; exact hw))
theorem Tb113 (κ : Nat → Nat) : xTb κ 113 = T113 κ := rfl
theorem xOk_114 : ∀ y, y < 114 → xOk l D dA sz0 κ y := lt_s xOk_113 (fun hst as ah Rr hf hw => M113 hst hf (by rw [Tb113] at hw; exact hw))
theorem Tb114 (κ : Nat → Nat) : xTb κ 114 = T114 κ := rfl
theorem xOk_115 : ∀ y, y < 115 → xOk l D dA sz0 κ y := lt_s xOk_114 (fun hst as ah Rr hf hw => M114 hst hf (by rw [Tb114] at hw; exact hw))
theorem Tb115 (κ : Nat → Nat) : xTb κ 115 = T115 κ := rfl
theorem xOk_116 : ∀ y, y < 116 → xOk l D dA sz0 κ y := lt_s xOk_115 (fun hst as ah Rr hf hw => M115 hst hf (by rw [Tb115] at hw; exact hw))
theorem Tb116 (κ : Nat → Nat) : xTb κ 116 = T116 κ := rfl
theorem xOk_117 : ∀ y, y < 117 → xOk l D dA sz0 κ y := lt_s xOk_116 (fun hst as ah Rr hf hw => M116 hst hf (by rw [Tb116] at hw; exact hw))
theorem Tb117 (κ : Nat → Nat) : xTb κ 117 = T117 κ := rfl
theorem xOk_118 : ∀ y, y < 118 → xOk l D dA sz0 κ y := lt_s xOk_117 (fun hst as ah Rr hf hw => M117 hst hf (by rw [Tb117] at hw; exact hw))
theorem Tb118 (κ : Nat → Nat) : xTb κ 118 = T118 κ := rfl
theorem xOk_119 : ∀ y, y < 119 → xOk l D dA sz0 κ y := lt_s xOk_118 (fun hst as ah Rr hf hw => M118 hst hf (by rw [Tb118] at hw; exact hw))
theorem Tb119 (κ : Nat → Nat) : xTb κ 119 = T119 κ := rfl
theorem xOk_120 : ∀ y, y < 120 → xOk l D dA sz0 κ y := lt_s xOk_119 (fun hst as ah Rr hf hw => M119 hst hf (by rw [Tb119] at hw; exact hw))
theorem Tb120 (κ : Nat → Nat) : xTb κ 120 = T120 κ := rfl
theorem xOk_121 : ∀ y, y < 121 → xOk l D dA sz0 κ y := lt_s xOk_120 (fun hst as ah Rr hf hw => M120 hst hf (by rw [Tb120] at hw; exact hw))
theorem Tb121 (κ : Nat → Nat) : xTb κ 121 = T121 κ := rfl
theorem xOk_122 : ∀ y, y < 122 → xOk l D dA sz0 κ y := lt_s xOk_121 (fun hst as ah Rr hf hw => M121 hst hf (by rw [Tb121] at hw; exact hw))
theorem Tb122 (κ : Nat → Nat) : xTb κ 122 = T122 κ := rfl
theorem xOk_123 : ∀ y, y < 123 → xOk l D dA sz0 κ y := lt_s xOk_122 (fun hst as ah Rr hf hw => M122 hst hf (by rw [Tb122] at hw; exact hw))
theorem Tb123 (κ : Nat → Nat) : xTb κ 123 = T123 κ := rfl
theorem xOk_124 : ∀ y, y < 124 → xOk l D dA sz0 κ y := lt_s xOk_123 (fun hst as ah Rr hf hw => M123 hst hf (by rw [Tb123] at hw; exact hw))
theorem Tb124 (κ : Nat → Nat) : xTb κ 124 = T124 κ := rfl
theorem xOk_125 : ∀ y, y < 125 → xOk l D dA sz0 κ y := lt_s xOk_124 (fun hst as ah Rr hf hw => M124 hst hf (by rw [Tb124] at hw; exact hw))
theorem Tb125 (κ : Nat → Nat) : xTb κ 125 = T125 κ := rfl
theorem xOk_126 : ∀ y, y < 126 → xOk l D dA sz0 κ y := lt_s xOk_125 (fun hst as ah Rr hf hw => M125 hst hf (by rw [Tb125] at hw; exact hw))
theorem Tb126 (κ : Nat → Nat) : xTb κ 126 = T126 κ := rfl
theorem xOk_127 : ∀ y, y < 127 → xOk l D dA sz0 κ y := lt_s xOk_126 (fun hst as ah Rr hf hw => M126 hst hf (by rw [Tb126] at hw; exact hw))
theorem Tb127 (κ : Nat → Nat) : xTb κ 127 = T127 κ := rfl
theorem xOk_128 : ∀ y, y < 128 → xOk l D dA sz0 κ y := lt_s xOk_127 (fun hst as ah Rr hf hw => M127 hst hf (by rw [Tb127] at hw; exact hw))
theorem Tb128 (κ : Nat → Nat) : xTb κ 128 = T128 κ := rfl
theorem xOk_129 : ∀ y, y < 129 → xOk l D dA sz0 κ y := lt_s xOk_128 (fun hst as ah Rr hf hw => M128 hst hf (by rw [Tb128] at hw; exact hw))
theorem Tb129 (κ : Nat → Nat) : xTb κ 129 = T129 κ := rfl
theorem xOk_130 : ∀ y, y < 130 → xOk l D dA sz0 κ y := lt_s xOk_129 (fun hst as ah Rr hf hw => M129 hst hf (by rw [Tb129] at hw; exact hw))
theorem Tb130 (κ : Nat → Nat) : xTb κ 130 = T130 κ := rfl
theorem xOk_131 : ∀ y, y < 131 → xOk l D dA sz0 κ y := lt_s xOk_130 (fun hst as ah Rr hf hw => M130 hst hf (by rw [Tb130] at hw; exact hw))
theorem Tb131 (κ : Nat → Nat) : xTb κ 131 = T131 κ := rfl
theorem xOk_132 : ∀ y, y < 132 → xOk l D dA sz0 κ y := lt_s xOk_131 (fun hst as ah Rr hf hw => M131 hst hf (by rw [Tb131] at hw; exact hw))
theorem Tb132 (κ : Nat → Nat) : xTb κ 132 = T132 κ := rfl
theorem xOk_133 : ∀ y, y < 133 → xOk l D dA sz0 κ y := lt_s xOk_132 (fun hst as ah Rr hf hw => M132 hst hf (by rw [Tb132] at hw; exact hw))
theorem Tb133 (κ : Nat → Nat) : xTb κ 133 = T133 κ := rfl
theorem xOk_134 : ∀ y, y < 134 → xOk l D dA sz0 κ y := lt_s xOk_133 (fun hst as ah Rr hf hw => M133 hst hf (by rw [Tb133] at hw; exact hw))
theorem Tb134 (κ : Nat → Nat) : xTb κ 134 = T134 κ := rfl
theorem xOk_135 : ∀ y, y < 135 → xOk l D dA sz0 κ y := lt_s xOk_134 (fun hst as ah Rr hf hw => M134 hst hf (by rw [Tb134] at hw; exact hw))
theorem Tb135 (κ : Nat → Nat) : xTb κ 135 = T135 κ := rfl
theorem xOk_136 : ∀ y, y < 136 → xOk l D dA sz0 κ y := lt_s xOk_135 (fun hst as ah Rr hf hw => M135 hst hf (by rw [Tb135] at hw; exact hw))
theorem Tb136 (κ : Nat → Nat) : xTb κ 136 = T136 κ := rfl
theorem xOk_137 : ∀ y, y < 137 → xOk l D dA sz0 κ y := lt_s xOk_136 (fun hst as ah Rr hf hw => M136 hst hf (by rw [Tb136] at hw; exact hw))
theorem Tb137 (κ : Nat → Nat) : xTb κ 137 = T137 κ := rfl
theorem xOk_138 : ∀ y, y < 138 → xOk l D dA sz0 κ y := lt_s xOk_137 (fun hst as ah Rr hf hw => M137 hst hf (by rw [Tb137] at hw; exact hw))
theorem Tb138 (κ : Nat → Nat) : xTb κ 138 = T138 κ := rfl
theorem xOk_139 : ∀ y, y < 139 → xOk l D dA sz0 κ y := lt_s xOk_138 (fun hst as ah Rr hf hw => M138 hst hf (by rw [Tb138] at hw; exact hw))
theorem Tb139 (κ : Nat → Nat) : xTb κ 139 = T139 κ := rfl
theorem xOk_140 : ∀ y, y < 140 → xOk l D dA sz0 κ y := lt_s xOk_139 (fun hst as ah Rr hf hw => M139 hst hf (by rw [Tb139] at hw; exact hw))
theorem Tb140 (κ : Nat → Nat) : xTb κ 140 = T140 κ := rfl
theorem xOk_141 : ∀ y, y < 141 → xOk l D dA sz0 κ y := lt_s xOk_140 (fun hst as ah Rr hf hw => M140 hst hf (by rw [Tb140] at hw; exact hw))
theorem Tb141 (κ : Nat → Nat) : xTb κ 141 = T141 κ := rfl
theorem xOk_142 : ∀ y, y < 142 → xOk l D dA sz0 κ y := lt_s xOk_141 (fun hst as ah Rr hf hw => M141 hst hf (by rw [Tb141] at hw; exact hw))
theorem Tb142 (κ : Nat → Nat) : xTb κ 142 = T142 κ := rfl
theorem xOk_143 : ∀ y, y < 143 → xOk l D dA sz0 κ y := lt_s xOk_142 (fun hst as ah Rr hf hw => M142 hst hf (by rw [Tb142] at hw; exact hw))
theorem Tb143 (κ : Nat → Nat) : xTb κ 143 = T143 κ := rfl
theorem xOk_144 : ∀ y, y < 144 → xOk l D dA sz0 κ y := lt_s xOk_143 (fun hst as ah Rr hf hw => M143 hst hf (by rw [Tb143] at hw; exact hw))
theorem Tb144 (κ : Nat → Nat) : xTb κ 144 = T144 κ := rfl
theorem xOk_145 : ∀ y, y < 145 → xOk l D dA sz0 κ y := lt_s xOk_144 (fun hst as ah Rr hf hw => M144 hst hf (by rw [Tb144] at hw; exact hw))
theorem Tb145 (κ : Nat → Nat) : xTb κ 145 = T145 κ := rfl
theorem xOk_146 : ∀ y, y < 146 → xOk l D dA sz0 κ y := lt_s xOk_145 (fun hst as ah Rr hf hw => M145 hst hf (by rw [Tb145] at hw; exact hw))
theorem Tb146 (κ : Nat → Nat) : xTb κ 146 = T146 κ := rfl
theorem xOk_147 : ∀ y, y < 147 → xOk l D dA sz0 κ y := lt_s xOk_146 (fun hst as ah Rr hf hw => M146 hst hf (by rw [Tb146] at hw; exact hw))
theorem Tb147 (κ : Nat → Nat) : xTb κ 147 = T147 κ := rfl
theorem xOk_148 : ∀ y, y < 148 → xOk l D dA sz0 κ y := lt_s xOk_147 (fun hst as ah Rr hf hw => M147 hst hf (by rw [Tb147] at hw; exact hw))
theorem Tb148 (κ : Nat → Nat) : xTb κ 148 = T148 κ := rfl
theorem xOk_149 : ∀ y, y < 149 → xOk l D dA sz0 κ y := lt_s xOk_148 (fun hst as ah Rr hf hw => M148 hst hf (by rw [Tb148] at hw; exact hw))
theorem Tb149 (κ : Nat → Nat) : xTb κ 149 = T149 κ := rfl
theorem xOk_150 : ∀ y, y < 150 → xOk l D dA sz0 κ y := lt_s xOk_149 (fun hst as ah Rr hf hw => M149 hst hf (by rw [Tb149] at hw; exact hw))
theorem Tb150 (κ : Nat → Nat) : xTb κ 150 = T150 κ := rfl
theorem xOk_151 : ∀ y, y < 151 → xOk l D dA sz0 κ y := lt_s xOk_150 (fun hst as ah Rr hf hw => M150 hst hf (by rw [Tb150] at hw; exact hw))
theorem xAll (hst : l.stackTraces = false) {y : Nat} {as : List Value} {ah : xH} {Rr : xR → xH → Prop} (h : xm κ y as ah Rr) : xMet l D dA sz0 κ y as ah Rr := by
  refine h (xMet l D dA sz0 κ) ?_
  intro y as ah Rr hf hw
  by_cases hy : y < 151
  · exact xOk_151 y hy hst as ah Rr hf hw
  · obtain ⟨n, rfl⟩ : ∃ n, y = n + 151 := ⟨y - 151, by omega⟩
    rw [xTb_out] at hw
    exact (xW_stuck hw).elim
end
