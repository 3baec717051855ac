/-! more numbers; the law's small methods (printed by wip/gen28/gen61.py) -/
theorem leq7 {a : Nat} (h : a < 2 ^ 31) : (nI a = 7) = (a = 7) := xeq h (by decide)
theorem lle7 {a : Nat} (h : a < 2 ^ 31) : (nI a ≤ 7) = (a ≤ 7) := xle h (by decide)
theorem lge7 {a : Nat} (h : a < 2 ^ 31) : (7 ≤ nI a) = (7 ≤ a) := xle (by decide) h
theorem llt7 {a : Nat} (h : a < 2 ^ 31) : (nI a < 7) = (a < 7) := xlt h (by decide)
theorem lgt7 {a : Nat} (h : a < 2 ^ 31) : (7 < nI a) = (7 < a) := xlt (by decide) h
theorem lmu7 {a : Nat} : (7 : Int32) * nI a = nI (7 * a) := pk_mul 7 a
theorem lmv7 {a : Nat} : nI a * (7 : Int32) = nI (a * 7) := pk_mul a 7
theorem lad7 {a : Nat} : nI a + (7 : Int32) = nI (a + 7) := nI_add a 7
theorem lda7 {a : Nat} : (7 : Int32) + nI a = nI (7 + a) := nI_add 7 a
theorem lsu7 {a : Nat} (h : 7 ≤ a) : nI a - (7 : Int32) = nI (a - 7) := pk_sub h
theorem ldi7 {a : Nat} (h : a < 2 ^ 31) : nI a / (7 : Int32) = nI (a / 7) := pk_div h (by decide) (by decide)
theorem leq11 {a : Nat} (h : a < 2 ^ 31) : (nI a = 11) = (a = 11) := xeq h (by decide)
theorem lle11 {a : Nat} (h : a < 2 ^ 31) : (nI a ≤ 11) = (a ≤ 11) := xle h (by decide)
theorem lge11 {a : Nat} (h : a < 2 ^ 31) : (11 ≤ nI a) = (11 ≤ a) := xle (by decide) h
theorem llt11 {a : Nat} (h : a < 2 ^ 31) : (nI a < 11) = (a < 11) := xlt h (by decide)
theorem lgt11 {a : Nat} (h : a < 2 ^ 31) : (11 < nI a) = (11 < a) := xlt (by decide) h
theorem lmu11 {a : Nat} : (11 : Int32) * nI a = nI (11 * a) := pk_mul 11 a
theorem lmv11 {a : Nat} : nI a * (11 : Int32) = nI (a * 11) := pk_mul a 11
theorem lad11 {a : Nat} : nI a + (11 : Int32) = nI (a + 11) := nI_add a 11
theorem lda11 {a : Nat} : (11 : Int32) + nI a = nI (11 + a) := nI_add 11 a
theorem lsu11 {a : Nat} (h : 11 ≤ a) : nI a - (11 : Int32) = nI (a - 11) := pk_sub h
theorem ldi11 {a : Nat} (h : a < 2 ^ 31) : nI a / (11 : Int32) = nI (a / 11) := pk_div h (by decide) (by decide)
theorem leq13 {a : Nat} (h : a < 2 ^ 31) : (nI a = 13) = (a = 13) := xeq h (by decide)
theorem lle13 {a : Nat} (h : a < 2 ^ 31) : (nI a ≤ 13) = (a ≤ 13) := xle h (by decide)
theorem lge13 {a : Nat} (h : a < 2 ^ 31) : (13 ≤ nI a) = (13 ≤ a) := xle (by decide) h
theorem llt13 {a : Nat} (h : a < 2 ^ 31) : (nI a < 13) = (a < 13) := xlt h (by decide)
theorem lgt13 {a : Nat} (h : a < 2 ^ 31) : (13 < nI a) = (13 < a) := xlt (by decide) h
theorem lmu13 {a : Nat} : (13 : Int32) * nI a = nI (13 * a) := pk_mul 13 a
theorem lmv13 {a : Nat} : nI a * (13 : Int32) = nI (a * 13) := pk_mul a 13
theorem lad13 {a : Nat} : nI a + (13 : Int32) = nI (a + 13) := nI_add a 13
theorem lda13 {a : Nat} : (13 : Int32) + nI a = nI (13 + a) := nI_add 13 a
theorem lsu13 {a : Nat} (h : 13 ≤ a) : nI a - (13 : Int32) = nI (a - 13) := pk_sub h
theorem ldi13 {a : Nat} (h : a < 2 ^ 31) : nI a / (13 : Int32) = nI (a / 13) := pk_div h (by decide) (by decide)
theorem leq14 {a : Nat} (h : a < 2 ^ 31) : (nI a = 14) = (a = 14) := xeq h (by decide)
theorem lle14 {a : Nat} (h : a < 2 ^ 31) : (nI a ≤ 14) = (a ≤ 14) := xle h (by decide)
theorem lge14 {a : Nat} (h : a < 2 ^ 31) : (14 ≤ nI a) = (14 ≤ a) := xle (by decide) h
theorem llt14 {a : Nat} (h : a < 2 ^ 31) : (nI a < 14) = (a < 14) := xlt h (by decide)
theorem lgt14 {a : Nat} (h : a < 2 ^ 31) : (14 < nI a) = (14 < a) := xlt (by decide) h
theorem lmu14 {a : Nat} : (14 : Int32) * nI a = nI (14 * a) := pk_mul 14 a
theorem lmv14 {a : Nat} : nI a * (14 : Int32) = nI (a * 14) := pk_mul a 14
theorem lad14 {a : Nat} : nI a + (14 : Int32) = nI (a + 14) := nI_add a 14
theorem lda14 {a : Nat} : (14 : Int32) + nI a = nI (14 + a) := nI_add 14 a
theorem lsu14 {a : Nat} (h : 14 ≤ a) : nI a - (14 : Int32) = nI (a - 14) := pk_sub h
theorem ldi14 {a : Nat} (h : a < 2 ^ 31) : nI a / (14 : Int32) = nI (a / 14) := pk_div h (by decide) (by decide)
theorem leq15 {a : Nat} (h : a < 2 ^ 31) : (nI a = 15) = (a = 15) := xeq h (by decide)
theorem lle15 {a : Nat} (h : a < 2 ^ 31) : (nI a ≤ 15) = (a ≤ 15) := xle h (by decide)
theorem lge15 {a : Nat} (h : a < 2 ^ 31) : (15 ≤ nI a) = (15 ≤ a) := xle (by decide) h
theorem llt15 {a : Nat} (h : a < 2 ^ 31) : (nI a < 15) = (a < 15) := xlt h (by decide)
theorem lgt15 {a : Nat} (h : a < 2 ^ 31) : (15 < nI a) = (15 < a) := xlt (by decide) h
theorem lmu15 {a : Nat} : (15 : Int32) * nI a = nI (15 * a) := pk_mul 15 a
theorem lmv15 {a : Nat} : nI a * (15 : Int32) = nI (a * 15) := pk_mul a 15
theorem lad15 {a : Nat} : nI a + (15 : Int32) = nI (a + 15) := nI_add a 15
theorem lda15 {a : Nat} : (15 : Int32) + nI a = nI (15 + a) := nI_add 15 a
theorem lsu15 {a : Nat} (h : 15 ≤ a) : nI a - (15 : Int32) = nI (a - 15) := pk_sub h
theorem ldi15 {a : Nat} (h : a < 2 ^ 31) : nI a / (15 : Int32) = nI (a / 15) := pk_div h (by decide) (by decide)
theorem leq16 {a : Nat} (h : a < 2 ^ 31) : (nI a = 16) = (a = 16) := xeq h (by decide)
theorem lle16 {a : Nat} (h : a < 2 ^ 31) : (nI a ≤ 16) = (a ≤ 16) := xle h (by decide)
theorem lge16 {a : Nat} (h : a < 2 ^ 31) : (16 ≤ nI a) = (16 ≤ a) := xle (by decide) h
theorem llt16 {a : Nat} (h : a < 2 ^ 31) : (nI a < 16) = (a < 16) := xlt h (by decide)
theorem lgt16 {a : Nat} (h : a < 2 ^ 31) : (16 < nI a) = (16 < a) := xlt (by decide) h
theorem lmu16 {a : Nat} : (16 : Int32) * nI a = nI (16 * a) := pk_mul 16 a
theorem lmv16 {a : Nat} : nI a * (16 : Int32) = nI (a * 16) := pk_mul a 16
theorem lad16 {a : Nat} : nI a + (16 : Int32) = nI (a + 16) := nI_add a 16
theorem lda16 {a : Nat} : (16 : Int32) + nI a = nI (16 + a) := nI_add 16 a
theorem lsu16 {a : Nat} (h : 16 ≤ a) : nI a - (16 : Int32) = nI (a - 16) := pk_sub h
theorem ldi16 {a : Nat} (h : a < 2 ^ 31) : nI a / (16 : Int32) = nI (a / 16) := pk_div h (by decide) (by decide)
theorem leq17 {a : Nat} (h : a < 2 ^ 31) : (nI a = 17) = (a = 17) := xeq h (by decide)
theorem lle17 {a : Nat} (h : a < 2 ^ 31) : (nI a ≤ 17) = (a ≤ 17) := xle h (by decide)
theorem lge17 {a : Nat} (h : a < 2 ^ 31) : (17 ≤ nI a) = (17 ≤ a) := xle (by decide) h
theorem llt17 {a : Nat} (h : a < 2 ^ 31) : (nI a < 17) = (a < 17) := xlt h (by decide)
theorem lgt17 {a : Nat} (h : a < 2 ^ 31) : (17 < nI a) = (17 < a) := xlt (by decide) h
theorem lmu17 {a : Nat} : (17 : Int32) * nI a = nI (17 * a) := pk_mul 17 a
theorem lmv17 {a : Nat} : nI a * (17 : Int32) = nI (a * 17) := pk_mul a 17
theorem lad17 {a : Nat} : nI a + (17 : Int32) = nI (a + 17) := nI_add a 17
theorem lda17 {a : Nat} : (17 : Int32) + nI a = nI (17 + a) := nI_add 17 a
theorem lsu17 {a : Nat} (h : 17 ≤ a) : nI a - (17 : Int32) = nI (a - 17) := pk_sub h
theorem ldi17 {a : Nat} (h : a < 2 ^ 31) : nI a / (17 : Int32) = nI (a / 17) := pk_div h (by decide) (by decide)
theorem leq18 {a : Nat} (h : a < 2 ^ 31) : (nI a = 18) = (a = 18) := xeq h (by decide)
theorem lle18 {a : Nat} (h : a < 2 ^ 31) : (nI a ≤ 18) = (a ≤ 18) := xle h (by decide)
theorem lge18 {a : Nat} (h : a < 2 ^ 31) : (18 ≤ nI a) = (18 ≤ a) := xle (by decide) h
theorem llt18 {a : Nat} (h : a < 2 ^ 31) : (nI a < 18) = (a < 18) := xlt h (by decide)
theorem lgt18 {a : Nat} (h : a < 2 ^ 31) : (18 < nI a) = (18 < a) := xlt (by decide) h
theorem lmu18 {a : Nat} : (18 : Int32) * nI a = nI (18 * a) := pk_mul 18 a
theorem lmv18 {a : Nat} : nI a * (18 : Int32) = nI (a * 18) := pk_mul a 18
theorem lad18 {a : Nat} : nI a + (18 : Int32) = nI (a + 18) := nI_add a 18
theorem lda18 {a : Nat} : (18 : Int32) + nI a = nI (18 + a) := nI_add 18 a
theorem lsu18 {a : Nat} (h : 18 ≤ a) : nI a - (18 : Int32) = nI (a - 18) := pk_sub h
theorem ldi18 {a : Nat} (h : a < 2 ^ 31) : nI a / (18 : Int32) = nI (a / 18) := pk_div h (by decide) (by decide)
theorem leq19 {a : Nat} (h : a < 2 ^ 31) : (nI a = 19) = (a = 19) := xeq h (by decide)
theorem lle19 {a : Nat} (h : a < 2 ^ 31) : (nI a ≤ 19) = (a ≤ 19) := xle h (by decide)
theorem lge19 {a : Nat} (h : a < 2 ^ 31) : (19 ≤ nI a) = (19 ≤ a) := xle (by decide) h
theorem llt19 {a : Nat} (h : a < 2 ^ 31) : (nI a < 19) = (a < 19) := xlt h (by decide)
theorem lgt19 {a : Nat} (h : a < 2 ^ 31) : (19 < nI a) = (19 < a) := xlt (by decide) h
theorem lmu19 {a : Nat} : (19 : Int32) * nI a = nI (19 * a) := pk_mul 19 a
theorem lmv19 {a : Nat} : nI a * (19 : Int32) = nI (a * 19) := pk_mul a 19
theorem lad19 {a : Nat} : nI a + (19 : Int32) = nI (a + 19) := nI_add a 19
theorem lda19 {a : Nat} : (19 : Int32) + nI a = nI (19 + a) := nI_add 19 a
theorem lsu19 {a : Nat} (h : 19 ≤ a) : nI a - (19 : Int32) = nI (a - 19) := pk_sub h
theorem ldi19 {a : Nat} (h : a < 2 ^ 31) : nI a / (19 : Int32) = nI (a / 19) := pk_div h (by decide) (by decide)
theorem leq21 {a : Nat} (h : a < 2 ^ 31) : (nI a = 21) = (a = 21) := xeq h (by decide)
theorem lle21 {a : Nat} (h : a < 2 ^ 31) : (nI a ≤ 21) = (a ≤ 21) := xle h (by decide)
theorem lge21 {a : Nat} (h : a < 2 ^ 31) : (21 ≤ nI a) = (21 ≤ a) := xle (by decide) h
theorem llt21 {a : Nat} (h : a < 2 ^ 31) : (nI a < 21) = (a < 21) := xlt h (by decide)
theorem lgt21 {a : Nat} (h : a < 2 ^ 31) : (21 < nI a) = (21 < a) := xlt (by decide) h
theorem lmu21 {a : Nat} : (21 : Int32) * nI a = nI (21 * a) := pk_mul 21 a
theorem lmv21 {a : Nat} : nI a * (21 : Int32) = nI (a * 21) := pk_mul a 21
theorem lad21 {a : Nat} : nI a + (21 : Int32) = nI (a + 21) := nI_add a 21
theorem lda21 {a : Nat} : (21 : Int32) + nI a = nI (21 + a) := nI_add 21 a
theorem lsu21 {a : Nat} (h : 21 ≤ a) : nI a - (21 : Int32) = nI (a - 21) := pk_sub h
theorem ldi21 {a : Nat} (h : a < 2 ^ 31) : nI a / (21 : Int32) = nI (a / 21) := pk_div h (by decide) (by decide)
theorem leq23 {a : Nat} (h : a < 2 ^ 31) : (nI a = 23) = (a = 23) := xeq h (by decide)
theorem lle23 {a : Nat} (h : a < 2 ^ 31) : (nI a ≤ 23) = (a ≤ 23) := xle h (by decide)
theorem lge23 {a : Nat} (h : a < 2 ^ 31) : (23 ≤ nI a) = (23 ≤ a) := xle (by decide) h
theorem llt23 {a : Nat} (h : a < 2 ^ 31) : (nI a < 23) = (a < 23) := xlt h (by decide)
theorem lgt23 {a : Nat} (h : a < 2 ^ 31) : (23 < nI a) = (23 < a) := xlt (by decide) h
theorem lmu23 {a : Nat} : (23 : Int32) * nI a = nI (23 * a) := pk_mul 23 a
theorem lmv23 {a : Nat} : nI a * (23 : Int32) = nI (a * 23) := pk_mul a 23
theorem lad23 {a : Nat} : nI a + (23 : Int32) = nI (a + 23) := nI_add a 23
theorem lda23 {a : Nat} : (23 : Int32) + nI a = nI (23 + a) := nI_add 23 a
theorem lsu23 {a : Nat} (h : 23 ≤ a) : nI a - (23 : Int32) = nI (a - 23) := pk_sub h
theorem ldi23 {a : Nat} (h : a < 2 ^ 31) : nI a / (23 : Int32) = nI (a / 23) := pk_div h (by decide) (by decide)
theorem leq24 {a : Nat} (h : a < 2 ^ 31) : (nI a = 24) = (a = 24) := xeq h (by decide)
theorem lle24 {a : Nat} (h : a < 2 ^ 31) : (nI a ≤ 24) = (a ≤ 24) := xle h (by decide)
theorem lge24 {a : Nat} (h : a < 2 ^ 31) : (24 ≤ nI a) = (24 ≤ a) := xle (by decide) h
theorem llt24 {a : Nat} (h : a < 2 ^ 31) : (nI a < 24) = (a < 24) := xlt h (by decide)
theorem lgt24 {a : Nat} (h : a < 2 ^ 31) : (24 < nI a) = (24 < a) := xlt (by decide) h
theorem lmu24 {a : Nat} : (24 : Int32) * nI a = nI (24 * a) := pk_mul 24 a
theorem lmv24 {a : Nat} : nI a * (24 : Int32) = nI (a * 24) := pk_mul a 24
theorem lad24 {a : Nat} : nI a + (24 : Int32) = nI (a + 24) := nI_add a 24
theorem lda24 {a : Nat} : (24 : Int32) + nI a = nI (24 + a) := nI_add 24 a
theorem lsu24 {a : Nat} (h : 24 ≤ a) : nI a - (24 : Int32) = nI (a - 24) := pk_sub h
theorem ldi24 {a : Nat} (h : a < 2 ^ 31) : nI a / (24 : Int32) = nI (a / 24) := pk_div h (by decide) (by decide)
theorem leq26 {a : Nat} (h : a < 2 ^ 31) : (nI a = 26) = (a = 26) := xeq h (by decide)
theorem lle26 {a : Nat} (h : a < 2 ^ 31) : (nI a ≤ 26) = (a ≤ 26) := xle h (by decide)
theorem lge26 {a : Nat} (h : a < 2 ^ 31) : (26 ≤ nI a) = (26 ≤ a) := xle (by decide) h
theorem llt26 {a : Nat} (h : a < 2 ^ 31) : (nI a < 26) = (a < 26) := xlt h (by decide)
theorem lgt26 {a : Nat} (h : a < 2 ^ 31) : (26 < nI a) = (26 < a) := xlt (by decide) h
theorem lmu26 {a : Nat} : (26 : Int32) * nI a = nI (26 * a) := pk_mul 26 a
theorem lmv26 {a : Nat} : nI a * (26 : Int32) = nI (a * 26) := pk_mul a 26
theorem lad26 {a : Nat} : nI a + (26 : Int32) = nI (a + 26) := nI_add a 26
theorem lda26 {a : Nat} : (26 : Int32) + nI a = nI (26 + a) := nI_add 26 a
theorem lsu26 {a : Nat} (h : 26 ≤ a) : nI a - (26 : Int32) = nI (a - 26) := pk_sub h
theorem ldi26 {a : Nat} (h : a < 2 ^ 31) : nI a / (26 : Int32) = nI (a / 26) := pk_div h (by decide) (by decide)
theorem leq27 {a : Nat} (h : a < 2 ^ 31) : (nI a = 27) = (a = 27) := xeq h (by decide)
theorem lle27 {a : Nat} (h : a < 2 ^ 31) : (nI a ≤ 27) = (a ≤ 27) := xle h (by decide)
theorem lge27 {a : Nat} (h : a < 2 ^ 31) : (27 ≤ nI a) = (27 ≤ a) := xle (by decide) h
theorem llt27 {a : Nat} (h : a < 2 ^ 31) : (nI a < 27) = (a < 27) := xlt h (by decide)
theorem lgt27 {a : Nat} (h : a < 2 ^ 31) : (27 < nI a) = (27 < a) := xlt (by decide) h
theorem lmu27 {a : Nat} : (27 : Int32) * nI a = nI (27 * a) := pk_mul 27 a
theorem lmv27 {a : Nat} : nI a * (27 : Int32) = nI (a * 27) := pk_mul a 27
theorem lad27 {a : Nat} : nI a + (27 : Int32) = nI (a + 27) := nI_add a 27
theorem lda27 {a : Nat} : (27 : Int32) + nI a = nI (27 + a) := nI_add 27 a
theorem lsu27 {a : Nat} (h : 27 ≤ a) : nI a - (27 : Int32) = nI (a - 27) := pk_sub h
theorem ldi27 {a : Nat} (h : a < 2 ^ 31) : nI a / (27 : Int32) = nI (a / 27) := pk_div h (by decide) (by decide)
theorem leq31 {a : Nat} (h : a < 2 ^ 31) : (nI a = 31) = (a = 31) := xeq h (by decide)
theorem lle31 {a : Nat} (h : a < 2 ^ 31) : (nI a ≤ 31) = (a ≤ 31) := xle h (by decide)
theorem lge31 {a : Nat} (h : a < 2 ^ 31) : (31 ≤ nI a) = (31 ≤ a) := xle (by decide) h
theorem llt31 {a : Nat} (h : a < 2 ^ 31) : (nI a < 31) = (a < 31) := xlt h (by decide)
theorem lgt31 {a : Nat} (h : a < 2 ^ 31) : (31 < nI a) = (31 < a) := xlt (by decide) h
theorem lmu31 {a : Nat} : (31 : Int32) * nI a = nI (31 * a) := pk_mul 31 a
theorem lmv31 {a : Nat} : nI a * (31 : Int32) = nI (a * 31) := pk_mul a 31
theorem lad31 {a : Nat} : nI a + (31 : Int32) = nI (a + 31) := nI_add a 31
theorem lda31 {a : Nat} : (31 : Int32) + nI a = nI (31 + a) := nI_add 31 a
theorem lsu31 {a : Nat} (h : 31 ≤ a) : nI a - (31 : Int32) = nI (a - 31) := pk_sub h
theorem ldi31 {a : Nat} (h : a < 2 ^ 31) : nI a / (31 : Int32) = nI (a / 31) := pk_div h (by decide) (by decide)
theorem leq32 {a : Nat} (h : a < 2 ^ 31) : (nI a = 32) = (a = 32) := xeq h (by decide)
theorem lle32 {a : Nat} (h : a < 2 ^ 31) : (nI a ≤ 32) = (a ≤ 32) := xle h (by decide)
theorem lge32 {a : Nat} (h : a < 2 ^ 31) : (32 ≤ nI a) = (32 ≤ a) := xle (by decide) h
theorem llt32 {a : Nat} (h : a < 2 ^ 31) : (nI a < 32) = (a < 32) := xlt h (by decide)
theorem lgt32 {a : Nat} (h : a < 2 ^ 31) : (32 < nI a) = (32 < a) := xlt (by decide) h
theorem lmu32 {a : Nat} : (32 : Int32) * nI a = nI (32 * a) := pk_mul 32 a
theorem lmv32 {a : Nat} : nI a * (32 : Int32) = nI (a * 32) := pk_mul a 32
theorem lad32 {a : Nat} : nI a + (32 : Int32) = nI (a + 32) := nI_add a 32
theorem lda32 {a : Nat} : (32 : Int32) + nI a = nI (32 + a) := nI_add 32 a
theorem lsu32 {a : Nat} (h : 32 ≤ a) : nI a - (32 : Int32) = nI (a - 32) := pk_sub h
theorem ldi32 {a : Nat} (h : a < 2 ^ 31) : nI a / (32 : Int32) = nI (a / 32) := pk_div h (by decide) (by decide)
theorem leq33 {a : Nat} (h : a < 2 ^ 31) : (nI a = 33) = (a = 33) := xeq h (by decide)
theorem lle33 {a : Nat} (h : a < 2 ^ 31) : (nI a ≤ 33) = (a ≤ 33) := xle h (by decide)
theorem lge33 {a : Nat} (h : a < 2 ^ 31) : (33 ≤ nI a) = (33 ≤ a) := xle (by decide) h
theorem llt33 {a : Nat} (h : a < 2 ^ 31) : (nI a < 33) = (a < 33) := xlt h (by decide)
theorem lgt33 {a : Nat} (h : a < 2 ^ 31) : (33 < nI a) = (33 < a) := xlt (by decide) h
theorem lmu33 {a : Nat} : (33 : Int32) * nI a = nI (33 * a) := pk_mul 33 a
theorem lmv33 {a : Nat} : nI a * (33 : Int32) = nI (a * 33) := pk_mul a 33
theorem lad33 {a : Nat} : nI a + (33 : Int32) = nI (a + 33) := nI_add a 33
theorem lda33 {a : Nat} : (33 : Int32) + nI a = nI (33 + a) := nI_add 33 a
theorem lsu33 {a : Nat} (h : 33 ≤ a) : nI a - (33 : Int32) = nI (a - 33) := pk_sub h
theorem ldi33 {a : Nat} (h : a < 2 ^ 31) : nI a / (33 : Int32) = nI (a / 33) := pk_div h (by decide) (by decide)
theorem leq34 {a : Nat} (h : a < 2 ^ 31) : (nI a = 34) = (a = 34) := xeq h (by decide)
theorem lle34 {a : Nat} (h : a < 2 ^ 31) : (nI a ≤ 34) = (a ≤ 34) := xle h (by decide)
theorem lge34 {a : Nat} (h : a < 2 ^ 31) : (34 ≤ nI a) = (34 ≤ a) := xle (by decide) h
theorem llt34 {a : Nat} (h : a < 2 ^ 31) : (nI a < 34) = (a < 34) := xlt h (by decide)
theorem lgt34 {a : Nat} (h : a < 2 ^ 31) : (34 < nI a) = (34 < a) := xlt (by decide) h
theorem lmu34 {a : Nat} : (34 : Int32) * nI a = nI (34 * a) := pk_mul 34 a
theorem lmv34 {a : Nat} : nI a * (34 : Int32) = nI (a * 34) := pk_mul a 34
theorem lad34 {a : Nat} : nI a + (34 : Int32) = nI (a + 34) := nI_add a 34
theorem lda34 {a : Nat} : (34 : Int32) + nI a = nI (34 + a) := nI_add 34 a
theorem lsu34 {a : Nat} (h : 34 ≤ a) : nI a - (34 : Int32) = nI (a - 34) := pk_sub h
theorem ldi34 {a : Nat} (h : a < 2 ^ 31) : nI a / (34 : Int32) = nI (a / 34) := pk_div h (by decide) (by decide)
theorem leq35 {a : Nat} (h : a < 2 ^ 31) : (nI a = 35) = (a = 35) := xeq h (by decide)
theorem lle35 {a : Nat} (h : a < 2 ^ 31) : (nI a ≤ 35) = (a ≤ 35) := xle h (by decide)
theorem lge35 {a : Nat} (h : a < 2 ^ 31) : (35 ≤ nI a) = (35 ≤ a) := xle (by decide) h
theorem llt35 {a : Nat} (h : a < 2 ^ 31) : (nI a < 35) = (a < 35) := xlt h (by decide)
theorem lgt35 {a : Nat} (h : a < 2 ^ 31) : (35 < nI a) = (35 < a) := xlt (by decide) h
theorem lmu35 {a : Nat} : (35 : Int32) * nI a = nI (35 * a) := pk_mul 35 a
theorem lmv35 {a : Nat} : nI a * (35 : Int32) = nI (a * 35) := pk_mul a 35
theorem lad35 {a : Nat} : nI a + (35 : Int32) = nI (a + 35) := nI_add a 35
theorem lda35 {a : Nat} : (35 : Int32) + nI a = nI (35 + a) := nI_add 35 a
theorem lsu35 {a : Nat} (h : 35 ≤ a) : nI a - (35 : Int32) = nI (a - 35) := pk_sub h
theorem ldi35 {a : Nat} (h : a < 2 ^ 31) : nI a / (35 : Int32) = nI (a / 35) := pk_div h (by decide) (by decide)
theorem leq36 {a : Nat} (h : a < 2 ^ 31) : (nI a = 36) = (a = 36) := xeq h (by decide)
theorem lle36 {a : Nat} (h : a < 2 ^ 31) : (nI a ≤ 36) = (a ≤ 36) := xle h (by decide)
theorem lge36 {a : Nat} (h : a < 2 ^ 31) : (36 ≤ nI a) = (36 ≤ a) := xle (by decide) h
theorem llt36 {a : Nat} (h : a < 2 ^ 31) : (nI a < 36) = (a < 36) := xlt h (by decide)
theorem lgt36 {a : Nat} (h : a < 2 ^ 31) : (36 < nI a) = (36 < a) := xlt (by decide) h
theorem lmu36 {a : Nat} : (36 : Int32) * nI a = nI (36 * a) := pk_mul 36 a
theorem lmv36 {a : Nat} : nI a * (36 : Int32) = nI (a * 36) := pk_mul a 36
theorem lad36 {a : Nat} : nI a + (36 : Int32) = nI (a + 36) := nI_add a 36
theorem lda36 {a : Nat} : (36 : Int32) + nI a = nI (36 + a) := nI_add 36 a
theorem lsu36 {a : Nat} (h : 36 ≤ a) : nI a - (36 : Int32) = nI (a - 36) := pk_sub h
theorem ldi36 {a : Nat} (h : a < 2 ^ 31) : nI a / (36 : Int32) = nI (a / 36) := pk_div h (by decide) (by decide)
theorem leq40 {a : Nat} (h : a < 2 ^ 31) : (nI a = 40) = (a = 40) := xeq h (by decide)
theorem lle40 {a : Nat} (h : a < 2 ^ 31) : (nI a ≤ 40) = (a ≤ 40) := xle h (by decide)
theorem lge40 {a : Nat} (h : a < 2 ^ 31) : (40 ≤ nI a) = (40 ≤ a) := xle (by decide) h
theorem llt40 {a : Nat} (h : a < 2 ^ 31) : (nI a < 40) = (a < 40) := xlt h (by decide)
theorem lgt40 {a : Nat} (h : a < 2 ^ 31) : (40 < nI a) = (40 < a) := xlt (by decide) h
theorem lmu40 {a : Nat} : (40 : Int32) * nI a = nI (40 * a) := pk_mul 40 a
theorem lmv40 {a : Nat} : nI a * (40 : Int32) = nI (a * 40) := pk_mul a 40
theorem lad40 {a : Nat} : nI a + (40 : Int32) = nI (a + 40) := nI_add a 40
theorem lda40 {a : Nat} : (40 : Int32) + nI a = nI (40 + a) := nI_add 40 a
theorem lsu40 {a : Nat} (h : 40 ≤ a) : nI a - (40 : Int32) = nI (a - 40) := pk_sub h
theorem ldi40 {a : Nat} (h : a < 2 ^ 31) : nI a / (40 : Int32) = nI (a / 40) := pk_div h (by decide) (by decide)
theorem leq51 {a : Nat} (h : a < 2 ^ 31) : (nI a = 51) = (a = 51) := xeq h (by decide)
theorem lle51 {a : Nat} (h : a < 2 ^ 31) : (nI a ≤ 51) = (a ≤ 51) := xle h (by decide)
theorem lge51 {a : Nat} (h : a < 2 ^ 31) : (51 ≤ nI a) = (51 ≤ a) := xle (by decide) h
theorem llt51 {a : Nat} (h : a < 2 ^ 31) : (nI a < 51) = (a < 51) := xlt h (by decide)
theorem lgt51 {a : Nat} (h : a < 2 ^ 31) : (51 < nI a) = (51 < a) := xlt (by decide) h
theorem lmu51 {a : Nat} : (51 : Int32) * nI a = nI (51 * a) := pk_mul 51 a
theorem lmv51 {a : Nat} : nI a * (51 : Int32) = nI (a * 51) := pk_mul a 51
theorem lad51 {a : Nat} : nI a + (51 : Int32) = nI (a + 51) := nI_add a 51
theorem lda51 {a : Nat} : (51 : Int32) + nI a = nI (51 + a) := nI_add 51 a
theorem lsu51 {a : Nat} (h : 51 ≤ a) : nI a - (51 : Int32) = nI (a - 51) := pk_sub h
theorem ldi51 {a : Nat} (h : a < 2 ^ 31) : nI a / (51 : Int32) = nI (a / 51) := pk_div h (by decide) (by decide)
theorem leq101 {a : Nat} (h : a < 2 ^ 31) : (nI a = 101) = (a = 101) := xeq h (by decide)
theorem lle101 {a : Nat} (h : a < 2 ^ 31) : (nI a ≤ 101) = (a ≤ 101) := xle h (by decide)
theorem lge101 {a : Nat} (h : a < 2 ^ 31) : (101 ≤ nI a) = (101 ≤ a) := xle (by decide) h
theorem llt101 {a : Nat} (h : a < 2 ^ 31) : (nI a < 101) = (a < 101) := xlt h (by decide)
theorem lgt101 {a : Nat} (h : a < 2 ^ 31) : (101 < nI a) = (101 < a) := xlt (by decide) h
theorem lmu101 {a : Nat} : (101 : Int32) * nI a = nI (101 * a) := pk_mul 101 a
theorem lmv101 {a : Nat} : nI a * (101 : Int32) = nI (a * 101) := pk_mul a 101
theorem lad101 {a : Nat} : nI a + (101 : Int32) = nI (a + 101) := nI_add a 101
theorem lda101 {a : Nat} : (101 : Int32) + nI a = nI (101 + a) := nI_add 101 a
theorem lsu101 {a : Nat} (h : 101 ≤ a) : nI a - (101 : Int32) = nI (a - 101) := pk_sub h
theorem ldi101 {a : Nat} (h : a < 2 ^ 31) : nI a / (101 : Int32) = nI (a / 101) := pk_div h (by decide) (by decide)
theorem leq108 {a : Nat} (h : a < 2 ^ 31) : (nI a = 108) = (a = 108) := xeq h (by decide)
theorem lle108 {a : Nat} (h : a < 2 ^ 31) : (nI a ≤ 108) = (a ≤ 108) := xle h (by decide)
theorem lge108 {a : Nat} (h : a < 2 ^ 31) : (108 ≤ nI a) = (108 ≤ a) := xle (by decide) h
theorem llt108 {a : Nat} (h : a < 2 ^ 31) : (nI a < 108) = (a < 108) := xlt h (by decide)
theorem lgt108 {a : Nat} (h : a < 2 ^ 31) : (108 < nI a) = (108 < a) := xlt (by decide) h
theorem lmu108 {a : Nat} : (108 : Int32) * nI a = nI (108 * a) := pk_mul 108 a
theorem lmv108 {a : Nat} : nI a * (108 : Int32) = nI (a * 108) := pk_mul a 108
theorem lad108 {a : Nat} : nI a + (108 : Int32) = nI (a + 108) := nI_add a 108
theorem lda108 {a : Nat} : (108 : Int32) + nI a = nI (108 + a) := nI_add 108 a
theorem lsu108 {a : Nat} (h : 108 ≤ a) : nI a - (108 : Int32) = nI (a - 108) := pk_sub h
theorem ldi108 {a : Nat} (h : a < 2 ^ 31) : nI a / (108 : Int32) = nI (a / 108) := pk_div h (by decide) (by decide)
theorem leq130 {a : Nat} (h : a < 2 ^ 31) : (nI a = 130) = (a = 130) := xeq h (by decide)
theorem lle130 {a : Nat} (h : a < 2 ^ 31) : (nI a ≤ 130) = (a ≤ 130) := xle h (by decide)
theorem lge130 {a : Nat} (h : a < 2 ^ 31) : (130 ≤ nI a) = (130 ≤ a) := xle (by decide) h
theorem llt130 {a : Nat} (h : a < 2 ^ 31) : (nI a < 130) = (a < 130) := xlt h (by decide)
theorem lgt130 {a : Nat} (h : a < 2 ^ 31) : (130 < nI a) = (130 < a) := xlt (by decide) h
theorem lmu130 {a : Nat} : (130 : Int32) * nI a = nI (130 * a) := pk_mul 130 a
theorem lmv130 {a : Nat} : nI a * (130 : Int32) = nI (a * 130) := pk_mul a 130
theorem lad130 {a : Nat} : nI a + (130 : Int32) = nI (a + 130) := nI_add a 130
theorem lda130 {a : Nat} : (130 : Int32) + nI a = nI (130 + a) := nI_add 130 a
theorem lsu130 {a : Nat} (h : 130 ≤ a) : nI a - (130 : Int32) = nI (a - 130) := pk_sub h
theorem ldi130 {a : Nat} (h : a < 2 ^ 31) : nI a / (130 : Int32) = nI (a / 130) := pk_div h (by decide) (by decide)
theorem leq144 {a : Nat} (h : a < 2 ^ 31) : (nI a = 144) = (a = 144) := xeq h (by decide)
theorem lle144 {a : Nat} (h : a < 2 ^ 31) : (nI a ≤ 144) = (a ≤ 144) := xle h (by decide)
theorem lge144 {a : Nat} (h : a < 2 ^ 31) : (144 ≤ nI a) = (144 ≤ a) := xle (by decide) h
theorem llt144 {a : Nat} (h : a < 2 ^ 31) : (nI a < 144) = (a < 144) := xlt h (by decide)
theorem lgt144 {a : Nat} (h : a < 2 ^ 31) : (144 < nI a) = (144 < a) := xlt (by decide) h
theorem lmu144 {a : Nat} : (144 : Int32) * nI a = nI (144 * a) := pk_mul 144 a
theorem lmv144 {a : Nat} : nI a * (144 : Int32) = nI (a * 144) := pk_mul a 144
theorem lad144 {a : Nat} : nI a + (144 : Int32) = nI (a + 144) := nI_add a 144
theorem lda144 {a : Nat} : (144 : Int32) + nI a = nI (144 + a) := nI_add 144 a
theorem lsu144 {a : Nat} (h : 144 ≤ a) : nI a - (144 : Int32) = nI (a - 144) := pk_sub h
theorem ldi144 {a : Nat} (h : a < 2 ^ 31) : nI a / (144 : Int32) = nI (a / 144) := pk_div h (by decide) (by decide)
theorem leq576 {a : Nat} (h : a < 2 ^ 31) : (nI a = 576) = (a = 576) := xeq h (by decide)
theorem lle576 {a : Nat} (h : a < 2 ^ 31) : (nI a ≤ 576) = (a ≤ 576) := xle h (by decide)
theorem lge576 {a : Nat} (h : a < 2 ^ 31) : (576 ≤ nI a) = (576 ≤ a) := xle (by decide) h
theorem llt576 {a : Nat} (h : a < 2 ^ 31) : (nI a < 576) = (a < 576) := xlt h (by decide)
theorem lgt576 {a : Nat} (h : a < 2 ^ 31) : (576 < nI a) = (576 < a) := xlt (by decide) h
theorem lmu576 {a : Nat} : (576 : Int32) * nI a = nI (576 * a) := pk_mul 576 a
theorem lmv576 {a : Nat} : nI a * (576 : Int32) = nI (a * 576) := pk_mul a 576
theorem lad576 {a : Nat} : nI a + (576 : Int32) = nI (a + 576) := nI_add a 576
theorem lda576 {a : Nat} : (576 : Int32) + nI a = nI (576 + a) := nI_add 576 a
theorem lsu576 {a : Nat} (h : 576 ≤ a) : nI a - (576 : Int32) = nI (a - 576) := pk_sub h
theorem ldi576 {a : Nat} (h : a < 2 ^ 31) : nI a / (576 : Int32) = nI (a / 576) := pk_div h (by decide) (by decide)
theorem leq1000 {a : Nat} (h : a < 2 ^ 31) : (nI a = 1000) = (a = 1000) := xeq h (by decide)
theorem lle1000 {a : Nat} (h : a < 2 ^ 31) : (nI a ≤ 1000) = (a ≤ 1000) := xle h (by decide)
theorem lge1000 {a : Nat} (h : a < 2 ^ 31) : (1000 ≤ nI a) = (1000 ≤ a) := xle (by decide) h
theorem llt1000 {a : Nat} (h : a < 2 ^ 31) : (nI a < 1000) = (a < 1000) := xlt h (by decide)
theorem lgt1000 {a : Nat} (h : a < 2 ^ 31) : (1000 < nI a) = (1000 < a) := xlt (by decide) h
theorem lmu1000 {a : Nat} : (1000 : Int32) * nI a = nI (1000 * a) := pk_mul 1000 a
theorem lmv1000 {a : Nat} : nI a * (1000 : Int32) = nI (a * 1000) := pk_mul a 1000
theorem lad1000 {a : Nat} : nI a + (1000 : Int32) = nI (a + 1000) := nI_add a 1000
theorem lda1000 {a : Nat} : (1000 : Int32) + nI a = nI (1000 + a) := nI_add 1000 a
theorem lsu1000 {a : Nat} (h : 1000 ≤ a) : nI a - (1000 : Int32) = nI (a - 1000) := pk_sub h
theorem ldi1000 {a : Nat} (h : a < 2 ^ 31) : nI a / (1000 : Int32) = nI (a / 1000) := pk_div h (by decide) (by decide)
theorem leq1001 {a : Nat} (h : a < 2 ^ 31) : (nI a = 1001) = (a = 1001) := xeq h (by decide)
theorem lle1001 {a : Nat} (h : a < 2 ^ 31) : (nI a ≤ 1001) = (a ≤ 1001) := xle h (by decide)
theorem lge1001 {a : Nat} (h : a < 2 ^ 31) : (1001 ≤ nI a) = (1001 ≤ a) := xle (by decide) h
theorem llt1001 {a : Nat} (h : a < 2 ^ 31) : (nI a < 1001) = (a < 1001) := xlt h (by decide)
theorem lgt1001 {a : Nat} (h : a < 2 ^ 31) : (1001 < nI a) = (1001 < a) := xlt (by decide) h
theorem lmu1001 {a : Nat} : (1001 : Int32) * nI a = nI (1001 * a) := pk_mul 1001 a
theorem lmv1001 {a : Nat} : nI a * (1001 : Int32) = nI (a * 1001) := pk_mul a 1001
theorem lad1001 {a : Nat} : nI a + (1001 : Int32) = nI (a + 1001) := nI_add a 1001
theorem lda1001 {a : Nat} : (1001 : Int32) + nI a = nI (1001 + a) := nI_add 1001 a
theorem lsu1001 {a : Nat} (h : 1001 ≤ a) : nI a - (1001 : Int32) = nI (a - 1001) := pk_sub h
theorem ldi1001 {a : Nat} (h : a < 2 ^ 31) : nI a / (1001 : Int32) = nI (a / 1001) := pk_div h (by decide) (by decide)
theorem leq1999 {a : Nat} (h : a < 2 ^ 31) : (nI a = 1999) = (a = 1999) := xeq h (by decide)
theorem lle1999 {a : Nat} (h : a < 2 ^ 31) : (nI a ≤ 1999) = (a ≤ 1999) := xle h (by decide)
theorem lge1999 {a : Nat} (h : a < 2 ^ 31) : (1999 ≤ nI a) = (1999 ≤ a) := xle (by decide) h
theorem llt1999 {a : Nat} (h : a < 2 ^ 31) : (nI a < 1999) = (a < 1999) := xlt h (by decide)
theorem lgt1999 {a : Nat} (h : a < 2 ^ 31) : (1999 < nI a) = (1999 < a) := xlt (by decide) h
theorem lmu1999 {a : Nat} : (1999 : Int32) * nI a = nI (1999 * a) := pk_mul 1999 a
theorem lmv1999 {a : Nat} : nI a * (1999 : Int32) = nI (a * 1999) := pk_mul a 1999
theorem lad1999 {a : Nat} : nI a + (1999 : Int32) = nI (a + 1999) := nI_add a 1999
theorem lda1999 {a : Nat} : (1999 : Int32) + nI a = nI (1999 + a) := nI_add 1999 a
theorem lsu1999 {a : Nat} (h : 1999 ≤ a) : nI a - (1999 : Int32) = nI (a - 1999) := pk_sub h
theorem ldi1999 {a : Nat} (h : a < 2 ^ 31) : nI a / (1999 : Int32) = nI (a / 1999) := pk_div h (by decide) (by decide)
theorem leq2500 {a : Nat} (h : a < 2 ^ 31) : (nI a = 2500) = (a = 2500) := xeq h (by decide)
theorem lle2500 {a : Nat} (h : a < 2 ^ 31) : (nI a ≤ 2500) = (a ≤ 2500) := xle h (by decide)
theorem lge2500 {a : Nat} (h : a < 2 ^ 31) : (2500 ≤ nI a) = (2500 ≤ a) := xle (by decide) h
theorem llt2500 {a : Nat} (h : a < 2 ^ 31) : (nI a < 2500) = (a < 2500) := xlt h (by decide)
theorem lgt2500 {a : Nat} (h : a < 2 ^ 31) : (2500 < nI a) = (2500 < a) := xlt (by decide) h
theorem lmu2500 {a : Nat} : (2500 : Int32) * nI a = nI (2500 * a) := pk_mul 2500 a
theorem lmv2500 {a : Nat} : nI a * (2500 : Int32) = nI (a * 2500) := pk_mul a 2500
theorem lad2500 {a : Nat} : nI a + (2500 : Int32) = nI (a + 2500) := nI_add a 2500
theorem lda2500 {a : Nat} : (2500 : Int32) + nI a = nI (2500 + a) := nI_add 2500 a
theorem lsu2500 {a : Nat} (h : 2500 ≤ a) : nI a - (2500 : Int32) = nI (a - 2500) := pk_sub h
theorem ldi2500 {a : Nat} (h : a < 2 ^ 31) : nI a / (2500 : Int32) = nI (a / 2500) := pk_div h (by decide) (by decide)
theorem leq4096 {a : Nat} (h : a < 2 ^ 31) : (nI a = 4096) = (a = 4096) := xeq h (by decide)
theorem lle4096 {a : Nat} (h : a < 2 ^ 31) : (nI a ≤ 4096) = (a ≤ 4096) := xle h (by decide)
theorem lge4096 {a : Nat} (h : a < 2 ^ 31) : (4096 ≤ nI a) = (4096 ≤ a) := xle (by decide) h
theorem llt4096 {a : Nat} (h : a < 2 ^ 31) : (nI a < 4096) = (a < 4096) := xlt h (by decide)
theorem lgt4096 {a : Nat} (h : a < 2 ^ 31) : (4096 < nI a) = (4096 < a) := xlt (by decide) h
theorem lmu4096 {a : Nat} : (4096 : Int32) * nI a = nI (4096 * a) := pk_mul 4096 a
theorem lmv4096 {a : Nat} : nI a * (4096 : Int32) = nI (a * 4096) := pk_mul a 4096
theorem lad4096 {a : Nat} : nI a + (4096 : Int32) = nI (a + 4096) := nI_add a 4096
theorem lda4096 {a : Nat} : (4096 : Int32) + nI a = nI (4096 + a) := nI_add 4096 a
theorem lsu4096 {a : Nat} (h : 4096 ≤ a) : nI a - (4096 : Int32) = nI (a - 4096) := pk_sub h
theorem ldi4096 {a : Nat} (h : a < 2 ^ 31) : nI a / (4096 : Int32) = nI (a / 4096) := pk_div h (by decide) (by decide)
theorem leq5000 {a : Nat} (h : a < 2 ^ 31) : (nI a = 5000) = (a = 5000) := xeq h (by decide)
theorem lle5000 {a : Nat} (h : a < 2 ^ 31) : (nI a ≤ 5000) = (a ≤ 5000) := xle h (by decide)
theorem lge5000 {a : Nat} (h : a < 2 ^ 31) : (5000 ≤ nI a) = (5000 ≤ a) := xle (by decide) h
theorem llt5000 {a : Nat} (h : a < 2 ^ 31) : (nI a < 5000) = (a < 5000) := xlt h (by decide)
theorem lgt5000 {a : Nat} (h : a < 2 ^ 31) : (5000 < nI a) = (5000 < a) := xlt (by decide) h
theorem lmu5000 {a : Nat} : (5000 : Int32) * nI a = nI (5000 * a) := pk_mul 5000 a
theorem lmv5000 {a : Nat} : nI a * (5000 : Int32) = nI (a * 5000) := pk_mul a 5000
theorem lad5000 {a : Nat} : nI a + (5000 : Int32) = nI (a + 5000) := nI_add a 5000
theorem lda5000 {a : Nat} : (5000 : Int32) + nI a = nI (5000 + a) := nI_add 5000 a
theorem lsu5000 {a : Nat} (h : 5000 ≤ a) : nI a - (5000 : Int32) = nI (a - 5000) := pk_sub h
theorem ldi5000 {a : Nat} (h : a < 2 ^ 31) : nI a / (5000 : Int32) = nI (a / 5000) := pk_div h (by decide) (by decide)
theorem leq9000 {a : Nat} (h : a < 2 ^ 31) : (nI a = 9000) = (a = 9000) := xeq h (by decide)
theorem lle9000 {a : Nat} (h : a < 2 ^ 31) : (nI a ≤ 9000) = (a ≤ 9000) := xle h (by decide)
theorem lge9000 {a : Nat} (h : a < 2 ^ 31) : (9000 ≤ nI a) = (9000 ≤ a) := xle (by decide) h
theorem llt9000 {a : Nat} (h : a < 2 ^ 31) : (nI a < 9000) = (a < 9000) := xlt h (by decide)
theorem lgt9000 {a : Nat} (h : a < 2 ^ 31) : (9000 < nI a) = (9000 < a) := xlt (by decide) h
theorem lmu9000 {a : Nat} : (9000 : Int32) * nI a = nI (9000 * a) := pk_mul 9000 a
theorem lmv9000 {a : Nat} : nI a * (9000 : Int32) = nI (a * 9000) := pk_mul a 9000
theorem lad9000 {a : Nat} : nI a + (9000 : Int32) = nI (a + 9000) := nI_add a 9000
theorem lda9000 {a : Nat} : (9000 : Int32) + nI a = nI (9000 + a) := nI_add 9000 a
theorem lsu9000 {a : Nat} (h : 9000 ≤ a) : nI a - (9000 : Int32) = nI (a - 9000) := pk_sub h
theorem ldi9000 {a : Nat} (h : a < 2 ^ 31) : nI a / (9000 : Int32) = nI (a / 9000) := pk_div h (by decide) (by decide)
theorem leq65536 {a : Nat} (h : a < 2 ^ 31) : (nI a = 65536) = (a = 65536) := xeq h (by decide)
theorem lle65536 {a : Nat} (h : a < 2 ^ 31) : (nI a ≤ 65536) = (a ≤ 65536) := xle h (by decide)
theorem lge65536 {a : Nat} (h : a < 2 ^ 31) : (65536 ≤ nI a) = (65536 ≤ a) := xle (by decide) h
theorem llt65536 {a : Nat} (h : a < 2 ^ 31) : (nI a < 65536) = (a < 65536) := xlt h (by decide)
theorem lgt65536 {a : Nat} (h : a < 2 ^ 31) : (65536 < nI a) = (65536 < a) := xlt (by decide) h
theorem lmu65536 {a : Nat} : (65536 : Int32) * nI a = nI (65536 * a) := pk_mul 65536 a
theorem lmv65536 {a : Nat} : nI a * (65536 : Int32) = nI (a * 65536) := pk_mul a 65536
theorem lad65536 {a : Nat} : nI a + (65536 : Int32) = nI (a + 65536) := nI_add a 65536
theorem lda65536 {a : Nat} : (65536 : Int32) + nI a = nI (65536 + a) := nI_add 65536 a
theorem lsu65536 {a : Nat} (h : 65536 ≤ a) : nI a - (65536 : Int32) = nI (a - 65536) := pk_sub h
theorem ldi65536 {a : Nat} (h : a < 2 ^ 31) : nI a / (65536 : Int32) = nI (a / 65536) := pk_div h (by decide) (by decide)
theorem leq98001 {a : Nat} (h : a < 2 ^ 31) : (nI a = 98001) = (a = 98001) := xeq h (by decide)
theorem lle98001 {a : Nat} (h : a < 2 ^ 31) : (nI a ≤ 98001) = (a ≤ 98001) := xle h (by decide)
theorem lge98001 {a : Nat} (h : a < 2 ^ 31) : (98001 ≤ nI a) = (98001 ≤ a) := xle (by decide) h
theorem llt98001 {a : Nat} (h : a < 2 ^ 31) : (nI a < 98001) = (a < 98001) := xlt h (by decide)
theorem lgt98001 {a : Nat} (h : a < 2 ^ 31) : (98001 < nI a) = (98001 < a) := xlt (by decide) h
theorem lmu98001 {a : Nat} : (98001 : Int32) * nI a = nI (98001 * a) := pk_mul 98001 a
theorem lmv98001 {a : Nat} : nI a * (98001 : Int32) = nI (a * 98001) := pk_mul a 98001
theorem lad98001 {a : Nat} : nI a + (98001 : Int32) = nI (a + 98001) := nI_add a 98001
theorem lda98001 {a : Nat} : (98001 : Int32) + nI a = nI (98001 + a) := nI_add 98001 a
theorem lsu98001 {a : Nat} (h : 98001 ≤ a) : nI a - (98001 : Int32) = nI (a - 98001) := pk_sub h
theorem ldi98001 {a : Nat} (h : a < 2 ^ 31) : nI a / (98001 : Int32) = nI (a / 98001) := pk_div h (by decide) (by decide)
theorem leq100000 {a : Nat} (h : a < 2 ^ 31) : (nI a = 100000) = (a = 100000) := xeq h (by decide)
theorem lle100000 {a : Nat} (h : a < 2 ^ 31) : (nI a ≤ 100000) = (a ≤ 100000) := xle h (by decide)
theorem lge100000 {a : Nat} (h : a < 2 ^ 31) : (100000 ≤ nI a) = (100000 ≤ a) := xle (by decide) h
theorem llt100000 {a : Nat} (h : a < 2 ^ 31) : (nI a < 100000) = (a < 100000) := xlt h (by decide)
theorem lgt100000 {a : Nat} (h : a < 2 ^ 31) : (100000 < nI a) = (100000 < a) := xlt (by decide) h
theorem lmu100000 {a : Nat} : (100000 : Int32) * nI a = nI (100000 * a) := pk_mul 100000 a
theorem lmv100000 {a : Nat} : nI a * (100000 : Int32) = nI (a * 100000) := pk_mul a 100000
theorem lad100000 {a : Nat} : nI a + (100000 : Int32) = nI (a + 100000) := nI_add a 100000
theorem lda100000 {a : Nat} : (100000 : Int32) + nI a = nI (100000 + a) := nI_add 100000 a
theorem lsu100000 {a : Nat} (h : 100000 ≤ a) : nI a - (100000 : Int32) = nI (a - 100000) := pk_sub h
theorem ldi100000 {a : Nat} (h : a < 2 ^ 31) : nI a / (100000 : Int32) = nI (a / 100000) := pk_div h (by decide) (by decide)
theorem leq100001 {a : Nat} (h : a < 2 ^ 31) : (nI a = 100001) = (a = 100001) := xeq h (by decide)
theorem lle100001 {a : Nat} (h : a < 2 ^ 31) : (nI a ≤ 100001) = (a ≤ 100001) := xle h (by decide)
theorem lge100001 {a : Nat} (h : a < 2 ^ 31) : (100001 ≤ nI a) = (100001 ≤ a) := xle (by decide) h
theorem llt100001 {a : Nat} (h : a < 2 ^ 31) : (nI a < 100001) = (a < 100001) := xlt h (by decide)
theorem lgt100001 {a : Nat} (h : a < 2 ^ 31) : (100001 < nI a) = (100001 < a) := xlt (by decide) h
theorem lmu100001 {a : Nat} : (100001 : Int32) * nI a = nI (100001 * a) := pk_mul 100001 a
theorem lmv100001 {a : Nat} : nI a * (100001 : Int32) = nI (a * 100001) := pk_mul a 100001
theorem lad100001 {a : Nat} : nI a + (100001 : Int32) = nI (a + 100001) := nI_add a 100001
theorem lda100001 {a : Nat} : (100001 : Int32) + nI a = nI (100001 + a) := nI_add 100001 a
theorem lsu100001 {a : Nat} (h : 100001 ≤ a) : nI a - (100001 : Int32) = nI (a - 100001) := pk_sub h
theorem ldi100001 {a : Nat} (h : a < 2 ^ 31) : nI a / (100001 : Int32) = nI (a / 100001) := pk_div h (by decide) (by decide)
theorem lda2 {a : Nat} : (2 : Int32) + nI a = nI (2 + a) := nI_add 2 a
theorem lda3 {a : Nat} : (3 : Int32) + nI a = nI (3 + a) := nI_add 3 a
theorem lda4 {a : Nat} : (4 : Int32) + nI a = nI (4 + a) := nI_add 4 a
theorem lda5 {a : Nat} : (5 : Int32) + nI a = nI (5 + a) := nI_add 5 a
theorem lda6 {a : Nat} : (6 : Int32) + nI a = nI (6 + a) := nI_add 6 a
theorem lda8 {a : Nat} : (8 : Int32) + nI a = nI (8 + a) := nI_add 8 a
theorem lda9 {a : Nat} : (9 : Int32) + nI a = nI (9 + a) := nI_add 9 a
theorem lda10 {a : Nat} : (10 : Int32) + nI a = nI (10 + a) := nI_add 10 a
theorem lda12 {a : Nat} : (12 : Int32) + nI a = nI (12 + a) := nI_add 12 a
theorem lda20 {a : Nat} : (20 : Int32) + nI a = nI (20 + a) := nI_add 20 a
theorem lda25 {a : Nat} : (25 : Int32) + nI a = nI (25 + a) := nI_add 25 a
theorem lda30 {a : Nat} : (30 : Int32) + nI a = nI (30 + a) := nI_add 30 a
theorem lda48 {a : Nat} : (48 : Int32) + nI a = nI (48 + a) := nI_add 48 a
theorem lda50 {a : Nat} : (50 : Int32) + nI a = nI (50 + a) := nI_add 50 a
theorem lda99 {a : Nat} : (99 : Int32) + nI a = nI (99 + a) := nI_add 99 a
theorem lda100 {a : Nat} : (100 : Int32) + nI a = nI (100 + a) := nI_add 100 a
theorem lda2000 {a : Nat} : (2000 : Int32) + nI a = nI (2000 + a) := nI_add 2000 a
theorem lda1 {a : Nat} : (1 : Int32) + nI a = nI (1 + a) := nI_add 1 a
theorem nsr7 {a : Nat} : a - a / 7 * 7 = a % 7 := by omega
theorem lre7 {a : Nat} (h : a < 2 ^ 31) : nI a - nI a / (7 : Int32) * (7 : Int32) = nI (a % 7) := by rw [ldi7 h, lmv7, pk_sub (Nat.div_mul_le_self a 7), nsr7]
theorem nsr11 {a : Nat} : a - a / 11 * 11 = a % 11 := by omega
theorem lre11 {a : Nat} (h : a < 2 ^ 31) : nI a - nI a / (11 : Int32) * (11 : Int32) = nI (a % 11) := by rw [ldi11 h, lmv11, pk_sub (Nat.div_mul_le_self a 11), nsr11]
theorem nsr13 {a : Nat} : a - a / 13 * 13 = a % 13 := by omega
theorem lre13 {a : Nat} (h : a < 2 ^ 31) : nI a - nI a / (13 : Int32) * (13 : Int32) = nI (a % 13) := by rw [ldi13 h, lmv13, pk_sub (Nat.div_mul_le_self a 13), nsr13]
theorem nsr14 {a : Nat} : a - a / 14 * 14 = a % 14 := by omega
theorem lre14 {a : Nat} (h : a < 2 ^ 31) : nI a - nI a / (14 : Int32) * (14 : Int32) = nI (a % 14) := by rw [ldi14 h, lmv14, pk_sub (Nat.div_mul_le_self a 14), nsr14]
theorem nsr15 {a : Nat} : a - a / 15 * 15 = a % 15 := by omega
theorem lre15 {a : Nat} (h : a < 2 ^ 31) : nI a - nI a / (15 : Int32) * (15 : Int32) = nI (a % 15) := by rw [ldi15 h, lmv15, pk_sub (Nat.div_mul_le_self a 15), nsr15]
theorem nsr16 {a : Nat} : a - a / 16 * 16 = a % 16 := by omega
theorem lre16 {a : Nat} (h : a < 2 ^ 31) : nI a - nI a / (16 : Int32) * (16 : Int32) = nI (a % 16) := by rw [ldi16 h, lmv16, pk_sub (Nat.div_mul_le_self a 16), nsr16]
theorem nsr17 {a : Nat} : a - a / 17 * 17 = a % 17 := by omega
theorem lre17 {a : Nat} (h : a < 2 ^ 31) : nI a - nI a / (17 : Int32) * (17 : Int32) = nI (a % 17) := by rw [ldi17 h, lmv17, pk_sub (Nat.div_mul_le_self a 17), nsr17]
theorem nsr18 {a : Nat} : a - a / 18 * 18 = a % 18 := by omega
theorem lre18 {a : Nat} (h : a < 2 ^ 31) : nI a - nI a / (18 : Int32) * (18 : Int32) = nI (a % 18) := by rw [ldi18 h, lmv18, pk_sub (Nat.div_mul_le_self a 18), nsr18]
theorem nsr19 {a : Nat} : a - a / 19 * 19 = a % 19 := by omega
theorem lre19 {a : Nat} (h : a < 2 ^ 31) : nI a - nI a / (19 : Int32) * (19 : Int32) = nI (a % 19) := by rw [ldi19 h, lmv19, pk_sub (Nat.div_mul_le_self a 19), nsr19]
theorem nsr21 {a : Nat} : a - a / 21 * 21 = a % 21 := by omega
theorem lre21 {a : Nat} (h : a < 2 ^ 31) : nI a - nI a / (21 : Int32) * (21 : Int32) = nI (a % 21) := by rw [ldi21 h, lmv21, pk_sub (Nat.div_mul_le_self a 21), nsr21]
theorem nsr23 {a : Nat} : a - a / 23 * 23 = a % 23 := by omega
theorem lre23 {a : Nat} (h : a < 2 ^ 31) : nI a - nI a / (23 : Int32) * (23 : Int32) = nI (a % 23) := by rw [ldi23 h, lmv23, pk_sub (Nat.div_mul_le_self a 23), nsr23]
theorem nsr24 {a : Nat} : a - a / 24 * 24 = a % 24 := by omega
theorem lre24 {a : Nat} (h : a < 2 ^ 31) : nI a - nI a / (24 : Int32) * (24 : Int32) = nI (a % 24) := by rw [ldi24 h, lmv24, pk_sub (Nat.div_mul_le_self a 24), nsr24]
theorem nsr26 {a : Nat} : a - a / 26 * 26 = a % 26 := by omega
theorem lre26 {a : Nat} (h : a < 2 ^ 31) : nI a - nI a / (26 : Int32) * (26 : Int32) = nI (a % 26) := by rw [ldi26 h, lmv26, pk_sub (Nat.div_mul_le_self a 26), nsr26]
theorem nsr27 {a : Nat} : a - a / 27 * 27 = a % 27 := by omega
theorem lre27 {a : Nat} (h : a < 2 ^ 31) : nI a - nI a / (27 : Int32) * (27 : Int32) = nI (a % 27) := by rw [ldi27 h, lmv27, pk_sub (Nat.div_mul_le_self a 27), nsr27]
theorem nsr31 {a : Nat} : a - a / 31 * 31 = a % 31 := by omega
theorem lre31 {a : Nat} (h : a < 2 ^ 31) : nI a - nI a / (31 : Int32) * (31 : Int32) = nI (a % 31) := by rw [ldi31 h, lmv31, pk_sub (Nat.div_mul_le_self a 31), nsr31]
theorem nsr32 {a : Nat} : a - a / 32 * 32 = a % 32 := by omega
theorem lre32 {a : Nat} (h : a < 2 ^ 31) : nI a - nI a / (32 : Int32) * (32 : Int32) = nI (a % 32) := by rw [ldi32 h, lmv32, pk_sub (Nat.div_mul_le_self a 32), nsr32]
theorem nsr33 {a : Nat} : a - a / 33 * 33 = a % 33 := by omega
theorem lre33 {a : Nat} (h : a < 2 ^ 31) : nI a - nI a / (33 : Int32) * (33 : Int32) = nI (a % 33) := by rw [ldi33 h, lmv33, pk_sub (Nat.div_mul_le_self a 33), nsr33]
theorem nsr34 {a : Nat} : a - a / 34 * 34 = a % 34 := by omega
theorem lre34 {a : Nat} (h : a < 2 ^ 31) : nI a - nI a / (34 : Int32) * (34 : Int32) = nI (a % 34) := by rw [ldi34 h, lmv34, pk_sub (Nat.div_mul_le_self a 34), nsr34]
theorem nsr35 {a : Nat} : a - a / 35 * 35 = a % 35 := by omega
theorem lre35 {a : Nat} (h : a < 2 ^ 31) : nI a - nI a / (35 : Int32) * (35 : Int32) = nI (a % 35) := by rw [ldi35 h, lmv35, pk_sub (Nat.div_mul_le_self a 35), nsr35]
theorem nsr36 {a : Nat} : a - a / 36 * 36 = a % 36 := by omega
theorem lre36 {a : Nat} (h : a < 2 ^ 31) : nI a - nI a / (36 : Int32) * (36 : Int32) = nI (a % 36) := by rw [ldi36 h, lmv36, pk_sub (Nat.div_mul_le_self a 36), nsr36]
theorem nsr40 {a : Nat} : a - a / 40 * 40 = a % 40 := by omega
theorem lre40 {a : Nat} (h : a < 2 ^ 31) : nI a - nI a / (40 : Int32) * (40 : Int32) = nI (a % 40) := by rw [ldi40 h, lmv40, pk_sub (Nat.div_mul_le_self a 40), nsr40]
theorem nsr51 {a : Nat} : a - a / 51 * 51 = a % 51 := by omega
theorem lre51 {a : Nat} (h : a < 2 ^ 31) : nI a - nI a / (51 : Int32) * (51 : Int32) = nI (a % 51) := by rw [ldi51 h, lmv51, pk_sub (Nat.div_mul_le_self a 51), nsr51]
theorem nsr101 {a : Nat} : a - a / 101 * 101 = a % 101 := by omega
theorem lre101 {a : Nat} (h : a < 2 ^ 31) : nI a - nI a / (101 : Int32) * (101 : Int32) = nI (a % 101) := by rw [ldi101 h, lmv101, pk_sub (Nat.div_mul_le_self a 101), nsr101]
theorem nsr108 {a : Nat} : a - a / 108 * 108 = a % 108 := by omega
theorem lre108 {a : Nat} (h : a < 2 ^ 31) : nI a - nI a / (108 : Int32) * (108 : Int32) = nI (a % 108) := by rw [ldi108 h, lmv108, pk_sub (Nat.div_mul_le_self a 108), nsr108]
theorem nsr130 {a : Nat} : a - a / 130 * 130 = a % 130 := by omega
theorem lre130 {a : Nat} (h : a < 2 ^ 31) : nI a - nI a / (130 : Int32) * (130 : Int32) = nI (a % 130) := by rw [ldi130 h, lmv130, pk_sub (Nat.div_mul_le_self a 130), nsr130]
theorem nsr144 {a : Nat} : a - a / 144 * 144 = a % 144 := by omega
theorem lre144 {a : Nat} (h : a < 2 ^ 31) : nI a - nI a / (144 : Int32) * (144 : Int32) = nI (a % 144) := by rw [ldi144 h, lmv144, pk_sub (Nat.div_mul_le_self a 144), nsr144]
theorem nsr576 {a : Nat} : a - a / 576 * 576 = a % 576 := by omega
theorem lre576 {a : Nat} (h : a < 2 ^ 31) : nI a - nI a / (576 : Int32) * (576 : Int32) = nI (a % 576) := by rw [ldi576 h, lmv576, pk_sub (Nat.div_mul_le_self a 576), nsr576]
theorem nsr1000 {a : Nat} : a - a / 1000 * 1000 = a % 1000 := by omega
theorem lre1000 {a : Nat} (h : a < 2 ^ 31) : nI a - nI a / (1000 : Int32) * (1000 : Int32) = nI (a % 1000) := by rw [ldi1000 h, lmv1000, pk_sub (Nat.div_mul_le_self a 1000), nsr1000]
theorem nsr1001 {a : Nat} : a - a / 1001 * 1001 = a % 1001 := by omega
theorem lre1001 {a : Nat} (h : a < 2 ^ 31) : nI a - nI a / (1001 : Int32) * (1001 : Int32) = nI (a % 1001) := by rw [ldi1001 h, lmv1001, pk_sub (Nat.div_mul_le_self a 1001), nsr1001]
theorem nsr1999 {a : Nat} : a - a / 1999 * 1999 = a % 1999 := by omega
theorem lre1999 {a : Nat} (h : a < 2 ^ 31) : nI a - nI a / (1999 : Int32) * (1999 : Int32) = nI (a % 1999) := by rw [ldi1999 h, lmv1999, pk_sub (Nat.div_mul_le_self a 1999), nsr1999]
theorem nsr2500 {a : Nat} : a - a / 2500 * 2500 = a % 2500 := by omega
theorem lre2500 {a : Nat} (h : a < 2 ^ 31) : nI a - nI a / (2500 : Int32) * (2500 : Int32) = nI (a % 2500) := by rw [ldi2500 h, lmv2500, pk_sub (Nat.div_mul_le_self a 2500), nsr2500]
theorem nsr4096 {a : Nat} : a - a / 4096 * 4096 = a % 4096 := by omega
theorem lre4096 {a : Nat} (h : a < 2 ^ 31) : nI a - nI a / (4096 : Int32) * (4096 : Int32) = nI (a % 4096) := by rw [ldi4096 h, lmv4096, pk_sub (Nat.div_mul_le_self a 4096), nsr4096]
theorem nsr5000 {a : Nat} : a - a / 5000 * 5000 = a % 5000 := by omega
theorem lre5000 {a : Nat} (h : a < 2 ^ 31) : nI a - nI a / (5000 : Int32) * (5000 : Int32) = nI (a % 5000) := by rw [ldi5000 h, lmv5000, pk_sub (Nat.div_mul_le_self a 5000), nsr5000]
theorem nsr9000 {a : Nat} : a - a / 9000 * 9000 = a % 9000 := by omega
theorem lre9000 {a : Nat} (h : a < 2 ^ 31) : nI a - nI a / (9000 : Int32) * (9000 : Int32) = nI (a % 9000) := by rw [ldi9000 h, lmv9000, pk_sub (Nat.div_mul_le_self a 9000), nsr9000]
theorem nsr65536 {a : Nat} : a - a / 65536 * 65536 = a % 65536 := by omega
theorem lre65536 {a : Nat} (h : a < 2 ^ 31) : nI a - nI a / (65536 : Int32) * (65536 : Int32) = nI (a % 65536) := by rw [ldi65536 h, lmv65536, pk_sub (Nat.div_mul_le_self a 65536), nsr65536]
theorem nsr98001 {a : Nat} : a - a / 98001 * 98001 = a % 98001 := by omega
theorem lre98001 {a : Nat} (h : a < 2 ^ 31) : nI a - nI a / (98001 : Int32) * (98001 : Int32) = nI (a % 98001) := by rw [ldi98001 h, lmv98001, pk_sub (Nat.div_mul_le_self a 98001), nsr98001]
theorem nsr100000 {a : Nat} : a - a / 100000 * 100000 = a % 100000 := by omega
theorem lre100000 {a : Nat} (h : a < 2 ^ 31) : nI a - nI a / (100000 : Int32) * (100000 : Int32) = nI (a % 100000) := by rw [ldi100000 h, lmv100000, pk_sub (Nat.div_mul_le_self a 100000), nsr100000]
theorem nsr100001 {a : Nat} : a - a / 100001 * 100001 = a % 100001 := by omega
theorem lre100001 {a : Nat} (h : a < 2 ^ 31) : nI a - nI a / (100001 : Int32) * (100001 : Int32) = nI (a % 100001) := by rw [ldi100001 h, lmv100001, pk_sub (Nat.div_mul_le_self a 100001), nsr100001]
theorem nsr2 {a : Nat} : a - a / 2 * 2 = a % 2 := by omega
theorem lre2 {a : Nat} (h : a < 2 ^ 31) : nI a - nI a / (2 : Int32) * (2 : Int32) = nI (a % 2) := by rw [ldi2 h, lmv2, pk_sub (Nat.div_mul_le_self a 2), nsr2]
theorem nsr3 {a : Nat} : a - a / 3 * 3 = a % 3 := by omega
theorem lre3 {a : Nat} (h : a < 2 ^ 31) : nI a - nI a / (3 : Int32) * (3 : Int32) = nI (a % 3) := by rw [ldi3 h, lmv3, pk_sub (Nat.div_mul_le_self a 3), nsr3]
theorem nsr4 {a : Nat} : a - a / 4 * 4 = a % 4 := by omega
theorem lre4 {a : Nat} (h : a < 2 ^ 31) : nI a - nI a / (4 : Int32) * (4 : Int32) = nI (a % 4) := by rw [ldi4 h, lmv4, pk_sub (Nat.div_mul_le_self a 4), nsr4]
theorem nsr5 {a : Nat} : a - a / 5 * 5 = a % 5 := by omega
theorem lre5 {a : Nat} (h : a < 2 ^ 31) : nI a - nI a / (5 : Int32) * (5 : Int32) = nI (a % 5) := by rw [ldi5 h, lmv5, pk_sub (Nat.div_mul_le_self a 5), nsr5]
theorem nsr6 {a : Nat} : a - a / 6 * 6 = a % 6 := by omega
theorem lre6 {a : Nat} (h : a < 2 ^ 31) : nI a - nI a / (6 : Int32) * (6 : Int32) = nI (a % 6) := by rw [ldi6 h, lmv6, pk_sub (Nat.div_mul_le_self a 6), nsr6]
theorem nsr8 {a : Nat} : a - a / 8 * 8 = a % 8 := by omega
theorem lre8 {a : Nat} (h : a < 2 ^ 31) : nI a - nI a / (8 : Int32) * (8 : Int32) = nI (a % 8) := by rw [ldi8 h, lmv8, pk_sub (Nat.div_mul_le_self a 8), nsr8]
theorem nsr9 {a : Nat} : a - a / 9 * 9 = a % 9 := by omega
theorem lre9 {a : Nat} (h : a < 2 ^ 31) : nI a - nI a / (9 : Int32) * (9 : Int32) = nI (a % 9) := by rw [ldi9 h, lmv9, pk_sub (Nat.div_mul_le_self a 9), nsr9]
theorem nsr10 {a : Nat} : a - a / 10 * 10 = a % 10 := by omega
theorem lre10 {a : Nat} (h : a < 2 ^ 31) : nI a - nI a / (10 : Int32) * (10 : Int32) = nI (a % 10) := by rw [ldi10 h, lmv10, pk_sub (Nat.div_mul_le_self a 10), nsr10]
theorem nsr12 {a : Nat} : a - a / 12 * 12 = a % 12 := by omega
theorem lre12 {a : Nat} (h : a < 2 ^ 31) : nI a - nI a / (12 : Int32) * (12 : Int32) = nI (a % 12) := by rw [ldi12 h, lmv12, pk_sub (Nat.div_mul_le_self a 12), nsr12]
theorem nsr20 {a : Nat} : a - a / 20 * 20 = a % 20 := by omega
theorem lre20 {a : Nat} (h : a < 2 ^ 31) : nI a - nI a / (20 : Int32) * (20 : Int32) = nI (a % 20) := by rw [ldi20 h, lmv20, pk_sub (Nat.div_mul_le_self a 20), nsr20]
theorem nsr25 {a : Nat} : a - a / 25 * 25 = a % 25 := by omega
theorem lre25 {a : Nat} (h : a < 2 ^ 31) : nI a - nI a / (25 : Int32) * (25 : Int32) = nI (a % 25) := by rw [ldi25 h, lmv25, pk_sub (Nat.div_mul_le_self a 25), nsr25]
theorem nsr30 {a : Nat} : a - a / 30 * 30 = a % 30 := by omega
theorem lre30 {a : Nat} (h : a < 2 ^ 31) : nI a - nI a / (30 : Int32) * (30 : Int32) = nI (a % 30) := by rw [ldi30 h, lmv30, pk_sub (Nat.div_mul_le_self a 30), nsr30]
theorem nsr48 {a : Nat} : a - a / 48 * 48 = a % 48 := by omega
theorem lre48 {a : Nat} (h : a < 2 ^ 31) : nI a - nI a / (48 : Int32) * (48 : Int32) = nI (a % 48) := by rw [ldi48 h, lmv48, pk_sub (Nat.div_mul_le_self a 48), nsr48]
theorem nsr50 {a : Nat} : a - a / 50 * 50 = a % 50 := by omega
theorem lre50 {a : Nat} (h : a < 2 ^ 31) : nI a - nI a / (50 : Int32) * (50 : Int32) = nI (a % 50) := by rw [ldi50 h, lmv50, pk_sub (Nat.div_mul_le_self a 50), nsr50]
theorem nsr99 {a : Nat} : a - a / 99 * 99 = a % 99 := by omega
theorem lre99 {a : Nat} (h : a < 2 ^ 31) : nI a - nI a / (99 : Int32) * (99 : Int32) = nI (a % 99) := by rw [ldi99 h, lmv99, pk_sub (Nat.div_mul_le_self a 99), nsr99]
theorem nsr100 {a : Nat} : a - a / 100 * 100 = a % 100 := by omega
theorem lre100 {a : Nat} (h : a < 2 ^ 31) : nI a - nI a / (100 : Int32) * (100 : Int32) = nI (a % 100) := by rw [ldi100 h, lmv100, pk_sub (Nat.div_mul_le_self a 100), nsr100]
theorem nsr2000 {a : Nat} : a - a / 2000 * 2000 = a % 2000 := by omega
theorem lre2000 {a : Nat} (h : a < 2 ^ 31) : nI a - nI a / (2000 : Int32) * (2000 : Int32) = nI (a % 2000) := by rw [ldi2000 h, lmv2000, pk_sub (Nat.div_mul_le_self a 2000), nsr2000]
theorem nz_lit {n : Nat} (h : 0 < n) (h2 : n < 2 ^ 31) : (¬ nI n = 0) = True := eq_true (fun q => by
  rw [leq0 h2] at q
  omega)
theorem nz7 : (¬ (7 : Int32) = 0) = True := by decide
theorem nz11 : (¬ (11 : Int32) = 0) = True := by decide
theorem nz13 : (¬ (13 : Int32) = 0) = True := by decide
theorem nz14 : (¬ (14 : Int32) = 0) = True := by decide
theorem nz15 : (¬ (15 : Int32) = 0) = True := by decide
theorem nz16 : (¬ (16 : Int32) = 0) = True := by decide
theorem nz17 : (¬ (17 : Int32) = 0) = True := by decide
theorem nz18 : (¬ (18 : Int32) = 0) = True := by decide
theorem nz19 : (¬ (19 : Int32) = 0) = True := by decide
theorem nz21 : (¬ (21 : Int32) = 0) = True := by decide
theorem nz23 : (¬ (23 : Int32) = 0) = True := by decide
theorem nz24 : (¬ (24 : Int32) = 0) = True := by decide
theorem nz26 : (¬ (26 : Int32) = 0) = True := by decide
theorem nz27 : (¬ (27 : Int32) = 0) = True := by decide
theorem nz31 : (¬ (31 : Int32) = 0) = True := by decide
theorem nz32 : (¬ (32 : Int32) = 0) = True := by decide
theorem nz33 : (¬ (33 : Int32) = 0) = True := by decide
theorem nz34 : (¬ (34 : Int32) = 0) = True := by decide
theorem nz35 : (¬ (35 : Int32) = 0) = True := by decide
theorem nz36 : (¬ (36 : Int32) = 0) = True := by decide
theorem nz40 : (¬ (40 : Int32) = 0) = True := by decide
theorem nz51 : (¬ (51 : Int32) = 0) = True := by decide
theorem nz101 : (¬ (101 : Int32) = 0) = True := by decide
theorem nz108 : (¬ (108 : Int32) = 0) = True := by decide
theorem nz130 : (¬ (130 : Int32) = 0) = True := by decide
theorem nz144 : (¬ (144 : Int32) = 0) = True := by decide
theorem nz576 : (¬ (576 : Int32) = 0) = True := by decide
theorem nz1000 : (¬ (1000 : Int32) = 0) = True := by decide
theorem nz1001 : (¬ (1001 : Int32) = 0) = True := by decide
theorem nz1999 : (¬ (1999 : Int32) = 0) = True := by decide
theorem nz2500 : (¬ (2500 : Int32) = 0) = True := by decide
theorem nz4096 : (¬ (4096 : Int32) = 0) = True := by decide
theorem nz5000 : (¬ (5000 : Int32) = 0) = True := by decide
theorem nz9000 : (¬ (9000 : Int32) = 0) = True := by decide
theorem nz65536 : (¬ (65536 : Int32) = 0) = True := by decide
theorem nz98001 : (¬ (98001 : Int32) = 0) = True := by decide
theorem nz100000 : (¬ (100000 : Int32) = 0) = True := by decide
theorem nz100001 : (¬ (100001 : Int32) = 0) = True := by decide
theorem nz2 : (¬ (2 : Int32) = 0) = True := by decide
theorem nz3 : (¬ (3 : Int32) = 0) = True := by decide
theorem nz4 : (¬ (4 : Int32) = 0) = True := by decide
theorem nz5 : (¬ (5 : Int32) = 0) = True := by decide
theorem nz6 : (¬ (6 : Int32) = 0) = True := by decide
theorem nz8 : (¬ (8 : Int32) = 0) = True := by decide
theorem nz9 : (¬ (9 : Int32) = 0) = True := by decide
theorem nz10 : (¬ (10 : Int32) = 0) = True := by decide
theorem nz12 : (¬ (12 : Int32) = 0) = True := by decide
theorem nz20 : (¬ (20 : Int32) = 0) = True := by decide
theorem nz25 : (¬ (25 : Int32) = 0) = True := by decide
theorem nz30 : (¬ (30 : Int32) = 0) = True := by decide
theorem nz48 : (¬ (48 : Int32) = 0) = True := by decide
theorem nz50 : (¬ (50 : Int32) = 0) = True := by decide
theorem nz99 : (¬ (99 : Int32) = 0) = True := by decide
theorem nz100 : (¬ (100 : Int32) = 0) = True := by decide
theorem nz2000 : (¬ (2000 : Int32) = 0) = True := by decide
theorem kq1_0 : ((1 : Int32) = 0) = False := by decide
theorem kq2_0 : ((2 : Int32) = 0) = False := by decide
theorem kq2_1 : ((2 : Int32) = 1) = False := by decide
theorem kq3_0 : ((3 : Int32) = 0) = False := by decide
theorem kq3_1 : ((3 : Int32) = 1) = False := by decide
theorem kq3_2 : ((3 : Int32) = 2) = False := by decide
theorem kq4_0 : ((4 : Int32) = 0) = False := by decide
theorem kq4_1 : ((4 : Int32) = 1) = False := by decide
theorem kq4_2 : ((4 : Int32) = 2) = False := by decide
theorem kq4_3 : ((4 : Int32) = 3) = False := by decide
theorem kq5_0 : ((5 : Int32) = 0) = False := by decide
theorem kq5_1 : ((5 : Int32) = 1) = False := by decide
theorem kq5_2 : ((5 : Int32) = 2) = False := by decide
theorem kq5_3 : ((5 : Int32) = 3) = False := by decide
theorem kq5_4 : ((5 : Int32) = 4) = False := by decide
theorem kq6_0 : ((6 : Int32) = 0) = False := by decide
theorem kq6_1 : ((6 : Int32) = 1) = False := by decide
theorem kq6_2 : ((6 : Int32) = 2) = False := by decide
theorem kq6_3 : ((6 : Int32) = 3) = False := by decide
theorem kq6_4 : ((6 : Int32) = 4) = False := by decide
theorem kq6_5 : ((6 : Int32) = 5) = False := by decide
theorem kq7_0 : ((7 : Int32) = 0) = False := by decide
theorem kq7_1 : ((7 : Int32) = 1) = False := by decide
theorem kq7_2 : ((7 : Int32) = 2) = False := by decide
theorem kq7_3 : ((7 : Int32) = 3) = False := by decide
theorem kq7_4 : ((7 : Int32) = 4) = False := by decide
theorem kq7_5 : ((7 : Int32) = 5) = False := by decide
theorem kq7_6 : ((7 : Int32) = 6) = False := by decide
theorem kq8_0 : ((8 : Int32) = 0) = False := by decide
theorem kq8_1 : ((8 : Int32) = 1) = False := by decide
theorem kq8_2 : ((8 : Int32) = 2) = False := by decide
theorem kq8_3 : ((8 : Int32) = 3) = False := by decide
theorem kq8_4 : ((8 : Int32) = 4) = False := by decide
theorem kq8_5 : ((8 : Int32) = 5) = False := by decide
theorem kq8_6 : ((8 : Int32) = 6) = False := by decide
theorem kq8_7 : ((8 : Int32) = 7) = False := by decide
theorem kq9_0 : ((9 : Int32) = 0) = False := by decide
theorem kq9_1 : ((9 : Int32) = 1) = False := by decide
theorem kq9_2 : ((9 : Int32) = 2) = False := by decide
theorem kq9_3 : ((9 : Int32) = 3) = False := by decide
theorem kq9_4 : ((9 : Int32) = 4) = False := by decide
theorem kq9_5 : ((9 : Int32) = 5) = False := by decide
theorem kq9_6 : ((9 : Int32) = 6) = False := by decide
theorem kq9_7 : ((9 : Int32) = 7) = False := by decide
theorem kq9_8 : ((9 : Int32) = 8) = False := by decide
theorem kq10_0 : ((10 : Int32) = 0) = False := by decide
theorem kq10_1 : ((10 : Int32) = 1) = False := by decide
theorem kq10_2 : ((10 : Int32) = 2) = False := by decide
theorem kq10_3 : ((10 : Int32) = 3) = False := by decide
theorem kq10_4 : ((10 : Int32) = 4) = False := by decide
theorem kq10_5 : ((10 : Int32) = 5) = False := by decide
theorem kq10_6 : ((10 : Int32) = 6) = False := by decide
theorem kq10_7 : ((10 : Int32) = 7) = False := by decide
theorem kq10_8 : ((10 : Int32) = 8) = False := by decide
theorem kq10_9 : ((10 : Int32) = 9) = False := by decide
theorem kq11_0 : ((11 : Int32) = 0) = False := by decide
theorem kq11_1 : ((11 : Int32) = 1) = False := by decide
theorem kq11_2 : ((11 : Int32) = 2) = False := by decide
theorem kq11_3 : ((11 : Int32) = 3) = False := by decide
theorem kq11_4 : ((11 : Int32) = 4) = False := by decide
theorem kq11_5 : ((11 : Int32) = 5) = False := by decide
theorem kq11_6 : ((11 : Int32) = 6) = False := by decide
theorem kq11_7 : ((11 : Int32) = 7) = False := by decide
theorem kq11_8 : ((11 : Int32) = 8) = False := by decide
theorem kq11_9 : ((11 : Int32) = 9) = False := by decide
theorem kq11_10 : ((11 : Int32) = 10) = False := by decide
theorem kq12_0 : ((12 : Int32) = 0) = False := by decide
theorem kq12_1 : ((12 : Int32) = 1) = False := by decide
theorem kq12_2 : ((12 : Int32) = 2) = False := by decide
theorem kq12_3 : ((12 : Int32) = 3) = False := by decide
theorem kq12_4 : ((12 : Int32) = 4) = False := by decide
theorem kq12_5 : ((12 : Int32) = 5) = False := by decide
theorem kq12_6 : ((12 : Int32) = 6) = False := by decide
theorem kq12_7 : ((12 : Int32) = 7) = False := by decide
theorem kq12_8 : ((12 : Int32) = 8) = False := by decide
theorem kq12_9 : ((12 : Int32) = 9) = False := by decide
theorem kq12_10 : ((12 : Int32) = 10) = False := by decide
theorem kq12_11 : ((12 : Int32) = 11) = False := by decide
theorem kq13_0 : ((13 : Int32) = 0) = False := by decide
theorem kq13_1 : ((13 : Int32) = 1) = False := by decide
theorem kq13_2 : ((13 : Int32) = 2) = False := by decide
theorem kq13_3 : ((13 : Int32) = 3) = False := by decide
theorem kq13_4 : ((13 : Int32) = 4) = False := by decide
theorem kq13_5 : ((13 : Int32) = 5) = False := by decide
theorem kq13_6 : ((13 : Int32) = 6) = False := by decide
theorem kq13_7 : ((13 : Int32) = 7) = False := by decide
theorem kq13_8 : ((13 : Int32) = 8) = False := by decide
theorem kq13_9 : ((13 : Int32) = 9) = False := by decide
theorem kq13_10 : ((13 : Int32) = 10) = False := by decide
theorem kq13_11 : ((13 : Int32) = 11) = False := by decide
theorem kq13_12 : ((13 : Int32) = 12) = False := by decide
theorem kq14_0 : ((14 : Int32) = 0) = False := by decide
theorem kq14_1 : ((14 : Int32) = 1) = False := by decide
theorem kq14_2 : ((14 : Int32) = 2) = False := by decide
theorem kq14_3 : ((14 : Int32) = 3) = False := by decide
theorem kq14_4 : ((14 : Int32) = 4) = False := by decide
theorem kq14_5 : ((14 : Int32) = 5) = False := by decide
theorem kq14_6 : ((14 : Int32) = 6) = False := by decide
theorem kq14_7 : ((14 : Int32) = 7) = False := by decide
theorem kq14_8 : ((14 : Int32) = 8) = False := by decide
theorem kq14_9 : ((14 : Int32) = 9) = False := by decide
theorem kq14_10 : ((14 : Int32) = 10) = False := by decide
theorem kq14_11 : ((14 : Int32) = 11) = False := by decide
theorem kq14_12 : ((14 : Int32) = 12) = False := by decide
theorem kq14_13 : ((14 : Int32) = 13) = False := by decide
theorem kq15_0 : ((15 : Int32) = 0) = False := by decide
theorem kq15_1 : ((15 : Int32) = 1) = False := by decide
theorem kq15_2 : ((15 : Int32) = 2) = False := by decide
theorem kq15_3 : ((15 : Int32) = 3) = False := by decide
theorem kq15_4 : ((15 : Int32) = 4) = False := by decide
theorem kq15_5 : ((15 : Int32) = 5) = False := by decide
theorem kq15_6 : ((15 : Int32) = 6) = False := by decide
theorem kq15_7 : ((15 : Int32) = 7) = False := by decide
theorem kq15_8 : ((15 : Int32) = 8) = False := by decide
theorem kq15_9 : ((15 : Int32) = 9) = False := by decide
theorem kq15_10 : ((15 : Int32) = 10) = False := by decide
theorem kq15_11 : ((15 : Int32) = 11) = False := by decide
theorem kq15_12 : ((15 : Int32) = 12) = False := by decide
theorem kq15_13 : ((15 : Int32) = 13) = False := by decide
theorem kq15_14 : ((15 : Int32) = 14) = False := by decide
theorem kq16_0 : ((16 : Int32) = 0) = False := by decide
theorem kq16_1 : ((16 : Int32) = 1) = False := by decide
theorem kq16_2 : ((16 : Int32) = 2) = False := by decide
theorem kq16_3 : ((16 : Int32) = 3) = False := by decide
theorem kq16_4 : ((16 : Int32) = 4) = False := by decide
theorem kq16_5 : ((16 : Int32) = 5) = False := by decide
theorem kq16_6 : ((16 : Int32) = 6) = False := by decide
theorem kq16_7 : ((16 : Int32) = 7) = False := by decide
theorem kq16_8 : ((16 : Int32) = 8) = False := by decide
theorem kq16_9 : ((16 : Int32) = 9) = False := by decide
theorem kq16_10 : ((16 : Int32) = 10) = False := by decide
theorem kq16_11 : ((16 : Int32) = 11) = False := by decide
theorem kq16_12 : ((16 : Int32) = 12) = False := by decide
theorem kq16_13 : ((16 : Int32) = 13) = False := by decide
theorem kq16_14 : ((16 : Int32) = 14) = False := by decide
theorem kq16_15 : ((16 : Int32) = 15) = False := by decide
theorem kq17_0 : ((17 : Int32) = 0) = False := by decide
theorem kq17_1 : ((17 : Int32) = 1) = False := by decide
theorem kq17_2 : ((17 : Int32) = 2) = False := by decide
theorem kq17_3 : ((17 : Int32) = 3) = False := by decide
theorem kq17_4 : ((17 : Int32) = 4) = False := by decide
theorem kq17_5 : ((17 : Int32) = 5) = False := by decide
theorem kq17_6 : ((17 : Int32) = 6) = False := by decide
theorem kq17_7 : ((17 : Int32) = 7) = False := by decide
theorem kq17_8 : ((17 : Int32) = 8) = False := by decide
theorem kq17_9 : ((17 : Int32) = 9) = False := by decide
theorem kq17_10 : ((17 : Int32) = 10) = False := by decide
theorem kq17_11 : ((17 : Int32) = 11) = False := by decide
theorem kq17_12 : ((17 : Int32) = 12) = False := by decide
theorem kq17_13 : ((17 : Int32) = 13) = False := by decide
theorem kq17_14 : ((17 : Int32) = 14) = False := by decide
theorem kq17_15 : ((17 : Int32) = 15) = False := by decide
theorem kq17_16 : ((17 : Int32) = 16) = False := by decide
theorem kq18_0 : ((18 : Int32) = 0) = False := by decide
theorem kq18_1 : ((18 : Int32) = 1) = False := by decide
theorem kq18_2 : ((18 : Int32) = 2) = False := by decide
theorem kq18_3 : ((18 : Int32) = 3) = False := by decide
theorem kq18_4 : ((18 : Int32) = 4) = False := by decide
theorem kq18_5 : ((18 : Int32) = 5) = False := by decide
theorem kq18_6 : ((18 : Int32) = 6) = False := by decide
theorem kq18_7 : ((18 : Int32) = 7) = False := by decide
theorem kq18_8 : ((18 : Int32) = 8) = False := by decide
theorem kq18_9 : ((18 : Int32) = 9) = False := by decide
theorem kq18_10 : ((18 : Int32) = 10) = False := by decide
theorem kq18_11 : ((18 : Int32) = 11) = False := by decide
theorem kq18_12 : ((18 : Int32) = 12) = False := by decide
theorem kq18_13 : ((18 : Int32) = 13) = False := by decide
theorem kq18_14 : ((18 : Int32) = 14) = False := by decide
theorem kq18_15 : ((18 : Int32) = 15) = False := by decide
theorem kq18_16 : ((18 : Int32) = 16) = False := by decide
theorem kq18_17 : ((18 : Int32) = 17) = False := by decide
theorem kq19_0 : ((19 : Int32) = 0) = False := by decide
theorem kq19_1 : ((19 : Int32) = 1) = False := by decide
theorem kq19_2 : ((19 : Int32) = 2) = False := by decide
theorem kq19_3 : ((19 : Int32) = 3) = False := by decide
theorem kq19_4 : ((19 : Int32) = 4) = False := by decide
theorem kq19_5 : ((19 : Int32) = 5) = False := by decide
theorem kq19_6 : ((19 : Int32) = 6) = False := by decide
theorem kq19_7 : ((19 : Int32) = 7) = False := by decide
theorem kq19_8 : ((19 : Int32) = 8) = False := by decide
theorem kq19_9 : ((19 : Int32) = 9) = False := by decide
theorem kq19_10 : ((19 : Int32) = 10) = False := by decide
theorem kq19_11 : ((19 : Int32) = 11) = False := by decide
theorem kq19_12 : ((19 : Int32) = 12) = False := by decide
theorem kq19_13 : ((19 : Int32) = 13) = False := by decide
theorem kq19_14 : ((19 : Int32) = 14) = False := by decide
theorem kq19_15 : ((19 : Int32) = 15) = False := by decide
theorem kq19_16 : ((19 : Int32) = 16) = False := by decide
theorem kq19_17 : ((19 : Int32) = 17) = False := by decide
theorem kq19_18 : ((19 : Int32) = 18) = False := by decide
theorem kq20_0 : ((20 : Int32) = 0) = False := by decide
theorem kq20_1 : ((20 : Int32) = 1) = False := by decide
theorem kq20_2 : ((20 : Int32) = 2) = False := by decide
theorem kq20_3 : ((20 : Int32) = 3) = False := by decide
theorem kq20_4 : ((20 : Int32) = 4) = False := by decide
theorem kq20_5 : ((20 : Int32) = 5) = False := by decide
theorem kq20_6 : ((20 : Int32) = 6) = False := by decide
theorem kq20_7 : ((20 : Int32) = 7) = False := by decide
theorem kq20_8 : ((20 : Int32) = 8) = False := by decide
theorem kq20_9 : ((20 : Int32) = 9) = False := by decide
theorem kq20_10 : ((20 : Int32) = 10) = False := by decide
theorem kq20_11 : ((20 : Int32) = 11) = False := by decide
theorem kq20_12 : ((20 : Int32) = 12) = False := by decide
theorem kq20_13 : ((20 : Int32) = 13) = False := by decide
theorem kq20_14 : ((20 : Int32) = 14) = False := by decide
theorem kq20_15 : ((20 : Int32) = 15) = False := by decide
theorem kq20_16 : ((20 : Int32) = 16) = False := by decide
theorem kq20_17 : ((20 : Int32) = 17) = False := by decide
theorem kq20_18 : ((20 : Int32) = 18) = False := by decide
theorem kq20_19 : ((20 : Int32) = 19) = False := by decide
theorem kq21_0 : ((21 : Int32) = 0) = False := by decide
theorem kq21_1 : ((21 : Int32) = 1) = False := by decide
theorem kq21_2 : ((21 : Int32) = 2) = False := by decide
theorem kq21_3 : ((21 : Int32) = 3) = False := by decide
theorem kq21_4 : ((21 : Int32) = 4) = False := by decide
theorem kq21_5 : ((21 : Int32) = 5) = False := by decide
theorem kq21_6 : ((21 : Int32) = 6) = False := by decide
theorem kq21_7 : ((21 : Int32) = 7) = False := by decide
theorem kq21_8 : ((21 : Int32) = 8) = False := by decide
theorem kq21_9 : ((21 : Int32) = 9) = False := by decide
theorem kq21_10 : ((21 : Int32) = 10) = False := by decide
theorem kq21_11 : ((21 : Int32) = 11) = False := by decide
theorem kq21_12 : ((21 : Int32) = 12) = False := by decide
theorem kq21_13 : ((21 : Int32) = 13) = False := by decide
theorem kq21_14 : ((21 : Int32) = 14) = False := by decide
theorem kq21_15 : ((21 : Int32) = 15) = False := by decide
theorem kq21_16 : ((21 : Int32) = 16) = False := by decide
theorem kq21_17 : ((21 : Int32) = 17) = False := by decide
theorem kq21_18 : ((21 : Int32) = 18) = False := by decide
theorem kq21_19 : ((21 : Int32) = 19) = False := by decide
theorem kq21_20 : ((21 : Int32) = 20) = False := by decide
def jb (v : Int32) : Int32 := if v = 0 then 0 else 1
section
variable {κ : Nat → Nat} {x i : Nat} {R : xR → xH → Prop} {σ : xS} {h0 ah : xH}
theorem and_nn (v : Int32) : ¬ v &&& 2147483647 < 0 := by
  have h : (v &&& 2147483647).toBitVec.msb = false := by
    rw [Int32.toBitVec_and, BitVec.msb_and, show (2147483647 : Int32).toBitVec.msb = false from by decide, Bool.and_false]
  intro q
  rw [Int32.lt_iff_toInt_lt] at q
  have e : (v &&& 2147483647).toInt = (v &&& 2147483647).toBitVec.toInt := rfl
  rw [e, BitVec.toInt_eq_toNat_of_msb h] at q
  have : (0 : Int32).toInt = 0 := rfl
  omega
theorem sp_dice (hκ : κ 35 < 2 ^ 31) {k : Nat} (hk : k < 1000) (hR : ∀ j, j < 2 ^ 31 → R (.inl (some (.int (nI j)))) ah) : xm κ 136 [.ref (κ 34), .int (nI k)] ah R := by
  have fin : ∀ v : Int32, R (.inl (some (.int (v &&& 2147483647)))) ah := fun v => by
    obtain ⟨j, hj, e⟩ := nI_of (x := v &&& 2147483647) (and_nn v)
    rw [e]
    exact hR j hj
  by_cases h : k < κ 35
  · have c1 : ((Int32.ofNat (κ 35) : Int32) ≤ nI k) = False := eq_false (fun q => by
      have q : nI (κ 35) ≤ nI k := q
      rw [xle hκ (by omega)] at q
      omega)
    have c2 : vp_in (nI k) (κ 35) = True := xin_nI h hκ
    simp (disch := omega) only [en136, e136_0, e136_1, e136_1n, e136_2, e136_3, e136_6, e136_6n, e136_7, e136_8, e136_9, e136_12, e136_14, e136_15, e136_18, e136_19, e136_20, e136_23, e136_24, e136_25, e136_26, e136_27, e136_28, e136_31, e136_32, e136_34, e136_35, xKv, xK0, xKx, xKHv, xKH0, xk_none, xk_i, xk_f, xk_l, xk_r, xk_n, xc_i, xc_f, xc_l, xc_d, xc_r, xc_n, xo_some, List.map_cons, List.map_nil, List.sum_cons, List.sum_nil, xnzn, xpn0, xpn1, xpnb, xpnn, i10, i00, true_imp_iff, false_imp_iff, not_true_eq_false, not_false_eq_true, true_and, and_true, implies_true, xnz0, xnz1, xnzb, xfz0, xfz1, xfzb, Option.isSome_some, if_true, if_false, xbF, xbT, and_false, false_and, Nat.zero_le, Nat.reduceEqDiff, Nat.reduceLeDiff, Nat.reduceAdd, Nat.reduceSub, xiT, xiF, c1, c2, eq_self]
    exact fin _
  · have c1 : ((Int32.ofNat (κ 35) : Int32) ≤ nI k) = True := eq_true (by
      show nI (κ 35) ≤ nI k
      rw [xle hκ (by omega)]
      omega)
    simp (disch := omega) only [en136, e136_0, e136_1, e136_1n, e136_2, e136_3, e136_6, e136_6n, e136_7, e136_8, e136_9, e136_12, e136_14, e136_15, e136_18, e136_19, e136_20, e136_23, e136_24, e136_25, e136_26, e136_27, e136_28, e136_31, e136_32, e136_34, e136_35, xKv, xK0, xKx, xKHv, xKH0, xk_none, xk_i, xk_f, xk_l, xk_r, xk_n, xc_i, xc_f, xc_l, xc_d, xc_r, xc_n, xo_some, List.map_cons, List.map_nil, List.sum_cons, List.sum_nil, xnzn, xpn0, xpn1, xpnb, xpnn, i10, i00, true_imp_iff, false_imp_iff, not_true_eq_false, not_false_eq_true, true_and, and_true, implies_true, xnz0, xnz1, xnzb, xfz0, xfz1, xfzb, Option.isSome_some, if_true, if_false, xbF, xbT, and_false, false_and, Nat.zero_le, Nat.reduceEqDiff, Nat.reduceLeDiff, Nat.reduceAdd, Nat.reduceSub, xiT, xiF, c1]
    exact fin _
theorem w_warms (W : Wd κ x h0 σ i ah) {a b : Int32} (hR : t_weather a b = 0 → ∀ ah', Wd κ x h0 (s_weather σ a b) i ah' → R (.inl (some (.int 0))) ah') (h1 : t_weather a b = 1 → R (.inr 0) ah) : xm κ 137 [.ref x, .int a, .int b] ah R := by
  rw [en137]
  simp (disch := omega) only [e137_0, e137_0n, e137_1, e137_2, xKv, xK0, xKx, xKHv, xKH0, xk_none, xk_i, xk_f, xk_l, xk_r, xk_n, xc_i, xc_f, xc_l, xc_d, xc_r, xc_n, xo_some, List.map_cons, List.map_nil, List.sum_cons, List.sum_nil, xnzn, xpn0, xpn1, xpnb, xpnn, i10, i00, true_imp_iff, false_imp_iff, not_true_eq_false, not_false_eq_true, true_and, and_true, implies_true, xnz0, xnz1, xnzb, xfz0, xfz1, xfzb, Option.isSome_some, if_true, if_false, xbF, xbT, and_false, false_and, Nat.zero_le, Nat.reduceEqDiff, Nat.reduceLeDiff, Nat.reduceAdd, Nat.reduceSub, xiT, xiF]
  rw [e137_3]
  refine ⟨⟨by decide, W.is, by decide, by decide⟩, w_weather W (fun e ah' W' => ?_) (fun e => ?_)⟩
  · have g := hR e ah' W'
    show xW _ _ _ _
    simp (disch := omega) only [e137_6, e137_7, xKv, xK0, xKx, xKHv, xKH0, xk_none, xk_i, xk_f, xk_l, xk_r, xk_n, xc_i, xc_f, xc_l, xc_d, xc_r, xc_n, xo_some, List.map_cons, List.map_nil, List.sum_cons, List.sum_nil, xnzn, xpn0, xpn1, xpnb, xpnn, i10, i00, true_imp_iff, false_imp_iff, not_true_eq_false, not_false_eq_true, true_and, and_true, implies_true, xnz0, xnz1, xnzb, xfz0, xfz1, xfzb, Option.isSome_some, if_true, if_false, xbF, xbT, and_false, false_and, Nat.zero_le, Nat.reduceEqDiff, Nat.reduceLeDiff, Nat.reduceAdd, Nat.reduceSub, xiT, xiF]
    exact g
  · exact h1 e
theorem a_wall  (W : Wd κ x h0 σ i ah) {a b c d e : Int32} (hR : t_wall σ a b = 0 → ∀ ah', Wd κ x h0 (s_wall σ a b) i ah' → R (.inl (some (.int ((v_wall σ a b))))) ah') (h1 : t_wall σ a b = 1 → R (.inl (some (.int (-1692000)))) ah) (h2 : t_wall σ a b = 2 → R (.inl (some (.int (-1693000)))) ah) : xm κ 138 [.ref x, .int 0, .int a, .int b, .int c, .int d, .int e] ah R := by
  rw [en138]
  simp (disch := omega) only [e138_0, e138_1, e138_4, e138_4n, e138_5, e138_6, xKv, xK0, xKx, xKHv, xKH0, xk_none, xk_i, xk_f, xk_l, xk_r, xk_n, xc_i, xc_f, xc_l, xc_d, xc_r, xc_n, xo_some, List.map_cons, List.map_nil, List.sum_cons, List.sum_nil, xnzn, xpn0, xpn1, xpnb, xpnn, i10, i00, true_imp_iff, false_imp_iff, not_true_eq_false, not_false_eq_true, true_and, and_true, implies_true, xnz0, xnz1, xnzb, xfz0, xfz1, xfzb, Option.isSome_some, if_true, if_false, xbF, xbT, and_false, false_and, Nat.zero_le, Nat.reduceEqDiff, Nat.reduceLeDiff, Nat.reduceAdd, Nat.reduceSub, xiT, xiF, eq_self]
  rw [e138_7]
  refine ⟨⟨by decide, W.is, by decide, by decide⟩, w_wall W (fun e ah' W' => ?_) (fun e => ?_) (fun e => ?_)⟩
  · have g := hR e ah' W'
    show xW _ _ _ _
    simp (disch := omega) only [e138_10, e138_352, xKv, xK0, xKx, xKHv, xKH0, xk_none, xk_i, xk_f, xk_l, xk_r, xk_n, xc_i, xc_f, xc_l, xc_d, xc_r, xc_n, xo_some, List.map_cons, List.map_nil, List.sum_cons, List.sum_nil, xnzn, xpn0, xpn1, xpnb, xpnn, i10, i00, true_imp_iff, false_imp_iff, not_true_eq_false, not_false_eq_true, true_and, and_true, implies_true, xnz0, xnz1, xnzb, xfz0, xfz1, xfzb, Option.isSome_some, if_true, if_false, xbF, xbT, and_false, false_and, Nat.zero_le, Nat.reduceEqDiff, Nat.reduceLeDiff, Nat.reduceAdd, Nat.reduceSub, xiT, xiF]
    exact g
  · have g := h1 e
    refine ⟨358, rfl, fun q => ?_⟩
    simp (disch := omega) only [e138_358, e138_358n, e138_360, e138_362, xKv, xK0, xKx, xKHv, xKH0, xk_none, xk_i, xk_f, xk_l, xk_r, xk_n, xc_i, xc_f, xc_l, xc_d, xc_r, xc_n, xo_some, List.map_cons, List.map_nil, List.sum_cons, List.sum_nil, xnzn, xpn0, xpn1, xpnb, xpnn, i10, i00, true_imp_iff, false_imp_iff, not_true_eq_false, not_false_eq_true, true_and, and_true, implies_true, xnz0, xnz1, xnzb, xfz0, xfz1, xfzb, Option.isSome_some, if_true, if_false, xbF, xbT, and_false, false_and, Nat.zero_le, Nat.reduceEqDiff, Nat.reduceLeDiff, Nat.reduceAdd, Nat.reduceSub, xiT, xiF]
    exact g
  · have g := h2 e
    refine ⟨363, rfl, fun q => ?_⟩
    simp (disch := omega) only [e138_363, e138_363n, e138_365, e138_367, xKv, xK0, xKx, xKHv, xKH0, xk_none, xk_i, xk_f, xk_l, xk_r, xk_n, xc_i, xc_f, xc_l, xc_d, xc_r, xc_n, xo_some, List.map_cons, List.map_nil, List.sum_cons, List.sum_nil, xnzn, xpn0, xpn1, xpnb, xpnn, i10, i00, true_imp_iff, false_imp_iff, not_true_eq_false, not_false_eq_true, true_and, and_true, implies_true, xnz0, xnz1, xnzb, xfz0, xfz1, xfzb, Option.isSome_some, if_true, if_false, xbF, xbT, and_false, false_and, Nat.zero_le, Nat.reduceEqDiff, Nat.reduceLeDiff, Nat.reduceAdd, Nat.reduceSub, xiT, xiF]
    exact g
theorem a_weather  (W : Wd κ x h0 σ i ah) {a b c d e : Int32} (hR : t_weather a b = 0 → ∀ ah', Wd κ x h0 (s_weather σ a b) i ah' → R (.inl (some (.int (0)))) ah') (h1 : t_weather a b = 1 → R (.inl (some (.int (-1692000)))) ah) : xm κ 138 [.ref x, .int 1, .int a, .int b, .int c, .int d, .int e] ah R := by
  rw [en138]
  simp (disch := omega) only [e138_0, e138_1, e138_13, e138_14, e138_15, e138_18, e138_18n, e138_19, e138_20, xKv, xK0, xKx, xKHv, xKH0, xk_none, xk_i, xk_f, xk_l, xk_r, xk_n, xc_i, xc_f, xc_l, xc_d, xc_r, xc_n, xo_some, List.map_cons, List.map_nil, List.sum_cons, List.sum_nil, xnzn, xpn0, xpn1, xpnb, xpnn, i10, i00, true_imp_iff, false_imp_iff, not_true_eq_false, not_false_eq_true, true_and, and_true, implies_true, xnz0, xnz1, xnzb, xfz0, xfz1, xfzb, Option.isSome_some, if_true, if_false, xbF, xbT, and_false, false_and, Nat.zero_le, Nat.reduceEqDiff, Nat.reduceLeDiff, Nat.reduceAdd, Nat.reduceSub, xiT, xiF, eq_self, kq1_0]
  rw [e138_21]
  refine ⟨⟨by decide, trivial, by decide, by decide⟩, w_warms W (fun e ah' W' => ?_) (fun e => ?_)⟩
  · have g := hR e ah' W'
    show xW _ _ _ _
    simp (disch := omega) only [e138_24, e138_352, xKv, xK0, xKx, xKHv, xKH0, xk_none, xk_i, xk_f, xk_l, xk_r, xk_n, xc_i, xc_f, xc_l, xc_d, xc_r, xc_n, xo_some, List.map_cons, List.map_nil, List.sum_cons, List.sum_nil, xnzn, xpn0, xpn1, xpnb, xpnn, i10, i00, true_imp_iff, false_imp_iff, not_true_eq_false, not_false_eq_true, true_and, and_true, implies_true, xnz0, xnz1, xnzb, xfz0, xfz1, xfzb, Option.isSome_some, if_true, if_false, xbF, xbT, and_false, false_and, Nat.zero_le, Nat.reduceEqDiff, Nat.reduceLeDiff, Nat.reduceAdd, Nat.reduceSub, xiT, xiF]
    exact g
  · have g := h1 e
    refine ⟨358, rfl, fun q => ?_⟩
    simp (disch := omega) only [e138_358, e138_358n, e138_360, e138_362, xKv, xK0, xKx, xKHv, xKH0, xk_none, xk_i, xk_f, xk_l, xk_r, xk_n, xc_i, xc_f, xc_l, xc_d, xc_r, xc_n, xo_some, List.map_cons, List.map_nil, List.sum_cons, List.sum_nil, xnzn, xpn0, xpn1, xpnb, xpnn, i10, i00, true_imp_iff, false_imp_iff, not_true_eq_false, not_false_eq_true, true_and, and_true, implies_true, xnz0, xnz1, xnzb, xfz0, xfz1, xfzb, Option.isSome_some, if_true, if_false, xbF, xbT, and_false, false_and, Nat.zero_le, Nat.reduceEqDiff, Nat.reduceLeDiff, Nat.reduceAdd, Nat.reduceSub, xiT, xiF]
    exact g
theorem a_damp  (W : Wd κ x h0 σ i ah) {a b c d e : Int32} (hR : t_damp σ a b = 0 → ∀ ah', Wd κ x h0 (s_damp σ a b) i ah' → R (.inl (some (.int ((v_damp σ a b))))) ah') (h1 : t_damp σ a b = 1 → R (.inl (some (.int (-1691000)))) ah) (h2 : t_damp σ a b = 2 → R (.inl (some (.int (-1692000)))) ah) : xm κ 138 [.ref x, .int 2, .int a, .int b, .int c, .int d, .int e] ah R := by
  rw [en138]
  simp (disch := omega) only [e138_0, e138_1, e138_13, e138_14, e138_15, e138_27, e138_28, e138_29, e138_32, e138_32n, e138_33, e138_34, xKv, xK0, xKx, xKHv, xKH0, xk_none, xk_i, xk_f, xk_l, xk_r, xk_n, xc_i, xc_f, xc_l, xc_d, xc_r, xc_n, xo_some, List.map_cons, List.map_nil, List.sum_cons, List.sum_nil, xnzn, xpn0, xpn1, xpnb, xpnn, i10, i00, true_imp_iff, false_imp_iff, not_true_eq_false, not_false_eq_true, true_and, and_true, implies_true, xnz0, xnz1, xnzb, xfz0, xfz1, xfzb, Option.isSome_some, if_true, if_false, xbF, xbT, and_false, false_and, Nat.zero_le, Nat.reduceEqDiff, Nat.reduceLeDiff, Nat.reduceAdd, Nat.reduceSub, xiT, xiF, eq_self, kq2_0, kq2_1]
  rw [e138_35]
  refine ⟨⟨by decide, W.is, by decide, by decide⟩, w_damp W (fun e ah' W' => ?_) (fun e => ?_) (fun e => ?_)⟩
  · have g := hR e ah' W'
    show xW _ _ _ _
    simp (disch := omega) only [e138_38, e138_352, xKv, xK0, xKx, xKHv, xKH0, xk_none, xk_i, xk_f, xk_l, xk_r, xk_n, xc_i, xc_f, xc_l, xc_d, xc_r, xc_n, xo_some, List.map_cons, List.map_nil, List.sum_cons, List.sum_nil, xnzn, xpn0, xpn1, xpnb, xpnn, i10, i00, true_imp_iff, false_imp_iff, not_true_eq_false, not_false_eq_true, true_and, and_true, implies_true, xnz0, xnz1, xnzb, xfz0, xfz1, xfzb, Option.isSome_some, if_true, if_false, xbF, xbT, and_false, false_and, Nat.zero_le, Nat.reduceEqDiff, Nat.reduceLeDiff, Nat.reduceAdd, Nat.reduceSub, xiT, xiF]
    exact g
  · have g := h1 e
    refine ⟨353, rfl, fun q => ?_⟩
    simp (disch := omega) only [e138_353, e138_353n, e138_355, e138_357, xKv, xK0, xKx, xKHv, xKH0, xk_none, xk_i, xk_f, xk_l, xk_r, xk_n, xc_i, xc_f, xc_l, xc_d, xc_r, xc_n, xo_some, List.map_cons, List.map_nil, List.sum_cons, List.sum_nil, xnzn, xpn0, xpn1, xpnb, xpnn, i10, i00, true_imp_iff, false_imp_iff, not_true_eq_false, not_false_eq_true, true_and, and_true, implies_true, xnz0, xnz1, xnzb, xfz0, xfz1, xfzb, Option.isSome_some, if_true, if_false, xbF, xbT, and_false, false_and, Nat.zero_le, Nat.reduceEqDiff, Nat.reduceLeDiff, Nat.reduceAdd, Nat.reduceSub, xiT, xiF]
    exact g
  · have g := h2 e
    refine ⟨358, rfl, fun q => ?_⟩
    simp (disch := omega) only [e138_358, e138_358n, e138_360, e138_362, xKv, xK0, xKx, xKHv, xKH0, xk_none, xk_i, xk_f, xk_l, xk_r, xk_n, xc_i, xc_f, xc_l, xc_d, xc_r, xc_n, xo_some, List.map_cons, List.map_nil, List.sum_cons, List.sum_nil, xnzn, xpn0, xpn1, xpnb, xpnn, i10, i00, true_imp_iff, false_imp_iff, not_true_eq_false, not_false_eq_true, true_and, and_true, implies_true, xnz0, xnz1, xnzb, xfz0, xfz1, xfzb, Option.isSome_some, if_true, if_false, xbF, xbT, and_false, false_and, Nat.zero_le, Nat.reduceEqDiff, Nat.reduceLeDiff, Nat.reduceAdd, Nat.reduceSub, xiT, xiF]
    exact g
theorem a_joint  (W : Wd κ x h0 σ i ah) {a b c d e : Int32} (hR : t_joint σ a b = 0 → ∀ ah', Wd κ x h0 (s_joint σ a b) i ah' → R (.inl (some (.int (jb (v_joint σ a b))))) ah') (h1 : t_joint σ a b = 1 → R (.inl (some (.int (-1691000)))) ah) : xm κ 138 [.ref x, .int 3, .int a, .int b, .int c, .int d, .int e] ah R := by
  rw [en138]
  simp (disch := omega) only [e138_0, e138_1, e138_13, e138_14, e138_15, e138_27, e138_28, e138_29, e138_41, e138_42, e138_43, e138_46, e138_46n, e138_47, e138_48, xKv, xK0, xKx, xKHv, xKH0, xk_none, xk_i, xk_f, xk_l, xk_r, xk_n, xc_i, xc_f, xc_l, xc_d, xc_r, xc_n, xo_some, List.map_cons, List.map_nil, List.sum_cons, List.sum_nil, xnzn, xpn0, xpn1, xpnb, xpnn, i10, i00, true_imp_iff, false_imp_iff, not_true_eq_false, not_false_eq_true, true_and, and_true, implies_true, xnz0, xnz1, xnzb, xfz0, xfz1, xfzb, Option.isSome_some, if_true, if_false, xbF, xbT, and_false, false_and, Nat.zero_le, Nat.reduceEqDiff, Nat.reduceLeDiff, Nat.reduceAdd, Nat.reduceSub, xiT, xiF, eq_self, kq3_0, kq3_1, kq3_2]
  rw [e138_49]
  refine ⟨⟨by decide, W.is, by decide, by decide⟩, w_joint W (fun e ah' W' => ?_) (fun e => ?_)⟩
  · have g := hR e ah' W'
    show xW _ _ _ _
    unfold jb at g
    by_cases hz : (v_joint σ a b) = 0
    · rw [if_pos hz] at g
      simp (disch := omega) only [e138_52, e138_55, e138_56, e138_59, e138_60, e138_352, xKv, xK0, xKx, xKHv, xKH0, xk_none, xk_i, xk_f, xk_l, xk_r, xk_n, xc_i, xc_f, xc_l, xc_d, xc_r, xc_n, xo_some, List.map_cons, List.map_nil, List.sum_cons, List.sum_nil, xnzn, xpn0, xpn1, xpnb, xpnn, i10, i00, true_imp_iff, false_imp_iff, not_true_eq_false, not_false_eq_true, true_and, and_true, implies_true, xnz0, xnz1, xnzb, xfz0, xfz1, xfzb, Option.isSome_some, if_true, if_false, xbF, xbT, and_false, false_and, Nat.zero_le, Nat.reduceEqDiff, Nat.reduceLeDiff, Nat.reduceAdd, Nat.reduceSub, xiT, xiF, hz]
      exact g
    · rw [if_neg hz] at g
      simp (disch := omega) only [e138_52, e138_55, e138_56, e138_59, e138_60, e138_352, xKv, xK0, xKx, xKHv, xKH0, xk_none, xk_i, xk_f, xk_l, xk_r, xk_n, xc_i, xc_f, xc_l, xc_d, xc_r, xc_n, xo_some, List.map_cons, List.map_nil, List.sum_cons, List.sum_nil, xnzn, xpn0, xpn1, xpnb, xpnn, i10, i00, true_imp_iff, false_imp_iff, not_true_eq_false, not_false_eq_true, true_and, and_true, implies_true, xnz0, xnz1, xnzb, xfz0, xfz1, xfzb, Option.isSome_some, if_true, if_false, xbF, xbT, and_false, false_and, Nat.zero_le, Nat.reduceEqDiff, Nat.reduceLeDiff, Nat.reduceAdd, Nat.reduceSub, xiT, xiF, hz]
      exact g
  · have g := h1 e
    refine ⟨353, rfl, fun q => ?_⟩
    simp (disch := omega) only [e138_353, e138_353n, e138_355, e138_357, xKv, xK0, xKx, xKHv, xKH0, xk_none, xk_i, xk_f, xk_l, xk_r, xk_n, xc_i, xc_f, xc_l, xc_d, xc_r, xc_n, xo_some, List.map_cons, List.map_nil, List.sum_cons, List.sum_nil, xnzn, xpn0, xpn1, xpnb, xpnn, i10, i00, true_imp_iff, false_imp_iff, not_true_eq_false, not_false_eq_true, true_and, and_true, implies_true, xnz0, xnz1, xnzb, xfz0, xfz1, xfzb, Option.isSome_some, if_true, if_false, xbF, xbT, and_false, false_and, Nat.zero_le, Nat.reduceEqDiff, Nat.reduceLeDiff, Nat.reduceAdd, Nat.reduceSub, xiT, xiF]
    exact g
theorem a_coat (hK : KI κ) (W : Wd κ x h0 σ i ah) (hi : i < 163) {a b c d e : Int32} (hR : t_coat σ a b c d e = 0 → ∀ ah', Wd κ x h0 (s_coat σ a b c d e) (i + 1) ah' → R (.inl (some (.int ((v_coat σ a b c d e))))) ah') (h1 : t_coat σ a b c d e = 1 → R (.inl (some (.int (-1691000)))) ah) (h2 : t_coat σ a b c d e = 2 → R (.inl (some (.int (-1692000)))) ah) (h3 : t_coat σ a b c d e = 3 → R (.inl (some (.int (-1693000)))) ah) : xm κ 138 [.ref x, .int 4, .int a, .int b, .int c, .int d, .int e] ah R := by
  rw [en138]
  simp (disch := omega) only [e138_0, e138_1, e138_13, e138_14, e138_15, e138_27, e138_28, e138_29, e138_41, e138_42, e138_43, e138_63, e138_64, e138_65, e138_68, e138_68n, e138_69, e138_70, e138_71, e138_73, e138_75, xKv, xK0, xKx, xKHv, xKH0, xk_none, xk_i, xk_f, xk_l, xk_r, xk_n, xc_i, xc_f, xc_l, xc_d, xc_r, xc_n, xo_some, List.map_cons, List.map_nil, List.sum_cons, List.sum_nil, xnzn, xpn0, xpn1, xpnb, xpnn, i10, i00, true_imp_iff, false_imp_iff, not_true_eq_false, not_false_eq_true, true_and, and_true, implies_true, xnz0, xnz1, xnzb, xfz0, xfz1, xfzb, Option.isSome_some, if_true, if_false, xbF, xbT, and_false, false_and, Nat.zero_le, Nat.reduceEqDiff, Nat.reduceLeDiff, Nat.reduceAdd, Nat.reduceSub, xiT, xiF, eq_self, kq4_0, kq4_1, kq4_2, kq4_3]
  rw [e138_77]
  refine ⟨⟨by decide, W.is, by decide, by decide⟩, w_coat hK W hi (fun e ah' W' => ?_) (fun e => ?_) (fun e => ?_) (fun e => ?_)⟩
  · have g := hR e ah' W'
    show xW _ _ _ _
    simp (disch := omega) only [e138_80, e138_352, xKv, xK0, xKx, xKHv, xKH0, xk_none, xk_i, xk_f, xk_l, xk_r, xk_n, xc_i, xc_f, xc_l, xc_d, xc_r, xc_n, xo_some, List.map_cons, List.map_nil, List.sum_cons, List.sum_nil, xnzn, xpn0, xpn1, xpnb, xpnn, i10, i00, true_imp_iff, false_imp_iff, not_true_eq_false, not_false_eq_true, true_and, and_true, implies_true, xnz0, xnz1, xnzb, xfz0, xfz1, xfzb, Option.isSome_some, if_true, if_false, xbF, xbT, and_false, false_and, Nat.zero_le, Nat.reduceEqDiff, Nat.reduceLeDiff, Nat.reduceAdd, Nat.reduceSub, xiT, xiF]
    exact g
  · have g := h1 e
    refine ⟨353, rfl, fun q => ?_⟩
    simp (disch := omega) only [e138_353, e138_353n, e138_355, e138_357, xKv, xK0, xKx, xKHv, xKH0, xk_none, xk_i, xk_f, xk_l, xk_r, xk_n, xc_i, xc_f, xc_l, xc_d, xc_r, xc_n, xo_some, List.map_cons, List.map_nil, List.sum_cons, List.sum_nil, xnzn, xpn0, xpn1, xpnb, xpnn, i10, i00, true_imp_iff, false_imp_iff, not_true_eq_false, not_false_eq_true, true_and, and_true, implies_true, xnz0, xnz1, xnzb, xfz0, xfz1, xfzb, Option.isSome_some, if_true, if_false, xbF, xbT, and_false, false_and, Nat.zero_le, Nat.reduceEqDiff, Nat.reduceLeDiff, Nat.reduceAdd, Nat.reduceSub, xiT, xiF]
    exact g
  · have g := h2 e
    refine ⟨358, rfl, fun q => ?_⟩
    simp (disch := omega) only [e138_358, e138_358n, e138_360, e138_362, xKv, xK0, xKx, xKHv, xKH0, xk_none, xk_i, xk_f, xk_l, xk_r, xk_n, xc_i, xc_f, xc_l, xc_d, xc_r, xc_n, xo_some, List.map_cons, List.map_nil, List.sum_cons, List.sum_nil, xnzn, xpn0, xpn1, xpnb, xpnn, i10, i00, true_imp_iff, false_imp_iff, not_true_eq_false, not_false_eq_true, true_and, and_true, implies_true, xnz0, xnz1, xnzb, xfz0, xfz1, xfzb, Option.isSome_some, if_true, if_false, xbF, xbT, and_false, false_and, Nat.zero_le, Nat.reduceEqDiff, Nat.reduceLeDiff, Nat.reduceAdd, Nat.reduceSub, xiT, xiF]
    exact g
  · have g := h3 e
    refine ⟨363, rfl, fun q => ?_⟩
    simp (disch := omega) only [e138_363, e138_363n, e138_365, e138_367, xKv, xK0, xKx, xKHv, xKH0, xk_none, xk_i, xk_f, xk_l, xk_r, xk_n, xc_i, xc_f, xc_l, xc_d, xc_r, xc_n, xo_some, List.map_cons, List.map_nil, List.sum_cons, List.sum_nil, xnzn, xpn0, xpn1, xpnb, xpnn, i10, i00, true_imp_iff, false_imp_iff, not_true_eq_false, not_false_eq_true, true_and, and_true, implies_true, xnz0, xnz1, xnzb, xfz0, xfz1, xfzb, Option.isSome_some, if_true, if_false, xbF, xbT, and_false, false_and, Nat.zero_le, Nat.reduceEqDiff, Nat.reduceLeDiff, Nat.reduceAdd, Nat.reduceSub, xiT, xiF]
    exact g
theorem a_scratch  (W : Wd κ x h0 σ i ah) {a b c d e : Int32} (hR : t_scratch σ a b c = 0 → ∀ ah', Wd κ x h0 (s_scratch σ a b c) i ah' → R (.inl (some (.int ((v_scratch σ a b c))))) ah') (h1 : t_scratch σ a b c = 1 → R (.inl (some (.int (-1691000)))) ah) (h2 : t_scratch σ a b c = 2 → R (.inl (some (.int (-1692000)))) ah) (h3 : t_scratch σ a b c = 3 → R (.inl (some (.int (-1693000)))) ah) : xm κ 138 [.ref x, .int 5, .int a, .int b, .int c, .int d, .int e] ah R := by
  rw [en138]
  simp (disch := omega) only [e138_0, e138_1, e138_13, e138_14, e138_15, e138_27, e138_28, e138_29, e138_41, e138_42, e138_43, e138_63, e138_64, e138_65, e138_83, e138_84, e138_85, e138_88, e138_88n, e138_89, e138_90, e138_91, xKv, xK0, xKx, xKHv, xKH0, xk_none, xk_i, xk_f, xk_l, xk_r, xk_n, xc_i, xc_f, xc_l, xc_d, xc_r, xc_n, xo_some, List.map_cons, List.map_nil, List.sum_cons, List.sum_nil, xnzn, xpn0, xpn1, xpnb, xpnn, i10, i00, true_imp_iff, false_imp_iff, not_true_eq_false, not_false_eq_true, true_and, and_true, implies_true, xnz0, xnz1, xnzb, xfz0, xfz1, xfzb, Option.isSome_some, if_true, if_false, xbF, xbT, and_false, false_and, Nat.zero_le, Nat.reduceEqDiff, Nat.reduceLeDiff, Nat.reduceAdd, Nat.reduceSub, xiT, xiF, eq_self, kq5_0, kq5_1, kq5_2, kq5_3, kq5_4]
  rw [e138_93]
  refine ⟨⟨by decide, W.is, by decide, by decide⟩, w_scratch W (fun e ah' W' => ?_) (fun e => ?_) (fun e => ?_) (fun e => ?_)⟩
  · have g := hR e ah' W'
    show xW _ _ _ _
    simp (disch := omega) only [e138_96, e138_352, xKv, xK0, xKx, xKHv, xKH0, xk_none, xk_i, xk_f, xk_l, xk_r, xk_n, xc_i, xc_f, xc_l, xc_d, xc_r, xc_n, xo_some, List.map_cons, List.map_nil, List.sum_cons, List.sum_nil, xnzn, xpn0, xpn1, xpnb, xpnn, i10, i00, true_imp_iff, false_imp_iff, not_true_eq_false, not_false_eq_true, true_and, and_true, implies_true, xnz0, xnz1, xnzb, xfz0, xfz1, xfzb, Option.isSome_some, if_true, if_false, xbF, xbT, and_false, false_and, Nat.zero_le, Nat.reduceEqDiff, Nat.reduceLeDiff, Nat.reduceAdd, Nat.reduceSub, xiT, xiF]
    exact g
  · have g := h1 e
    refine ⟨353, rfl, fun q => ?_⟩
    simp (disch := omega) only [e138_353, e138_353n, e138_355, e138_357, xKv, xK0, xKx, xKHv, xKH0, xk_none, xk_i, xk_f, xk_l, xk_r, xk_n, xc_i, xc_f, xc_l, xc_d, xc_r, xc_n, xo_some, List.map_cons, List.map_nil, List.sum_cons, List.sum_nil, xnzn, xpn0, xpn1, xpnb, xpnn, i10, i00, true_imp_iff, false_imp_iff, not_true_eq_false, not_false_eq_true, true_and, and_true, implies_true, xnz0, xnz1, xnzb, xfz0, xfz1, xfzb, Option.isSome_some, if_true, if_false, xbF, xbT, and_false, false_and, Nat.zero_le, Nat.reduceEqDiff, Nat.reduceLeDiff, Nat.reduceAdd, Nat.reduceSub, xiT, xiF]
    exact g
  · have g := h2 e
    refine ⟨358, rfl, fun q => ?_⟩
    simp (disch := omega) only [e138_358, e138_358n, e138_360, e138_362, xKv, xK0, xKx, xKHv, xKH0, xk_none, xk_i, xk_f, xk_l, xk_r, xk_n, xc_i, xc_f, xc_l, xc_d, xc_r, xc_n, xo_some, List.map_cons, List.map_nil, List.sum_cons, List.sum_nil, xnzn, xpn0, xpn1, xpnb, xpnn, i10, i00, true_imp_iff, false_imp_iff, not_true_eq_false, not_false_eq_true, true_and, and_true, implies_true, xnz0, xnz1, xnzb, xfz0, xfz1, xfzb, Option.isSome_some, if_true, if_false, xbF, xbT, and_false, false_and, Nat.zero_le, Nat.reduceEqDiff, Nat.reduceLeDiff, Nat.reduceAdd, Nat.reduceSub, xiT, xiF]
    exact g
  · have g := h3 e
    refine ⟨363, rfl, fun q => ?_⟩
    simp (disch := omega) only [e138_363, e138_363n, e138_365, e138_367, xKv, xK0, xKx, xKHv, xKH0, xk_none, xk_i, xk_f, xk_l, xk_r, xk_n, xc_i, xc_f, xc_l, xc_d, xc_r, xc_n, xo_some, List.map_cons, List.map_nil, List.sum_cons, List.sum_nil, xnzn, xpn0, xpn1, xpnb, xpnn, i10, i00, true_imp_iff, false_imp_iff, not_true_eq_false, not_false_eq_true, true_and, and_true, implies_true, xnz0, xnz1, xnzb, xfz0, xfz1, xfzb, Option.isSome_some, if_true, if_false, xbF, xbT, and_false, false_and, Nat.zero_le, Nat.reduceEqDiff, Nat.reduceLeDiff, Nat.reduceAdd, Nat.reduceSub, xiT, xiF]
    exact g
theorem a_strike  (W : Wd κ x h0 σ i ah) (hi : i < 163) {a b c d e : Int32} (hR : t_strike σ a b = 0 → ∀ ah', Wd κ x h0 (s_strike σ a b) (i + 1) ah' → R (.inl (some (.int ((v_strike σ a b))))) ah') (h1 : t_strike σ a b = 1 → R (.inl (some (.int (-1691000)))) ah) (h2 : t_strike σ a b = 2 → R (.inl (some (.int (-1693000)))) ah) : xm κ 138 [.ref x, .int 6, .int a, .int b, .int c, .int d, .int e] ah R := by
  rw [en138]
  simp (disch := omega) only [e138_0, e138_1, e138_13, e138_14, e138_15, e138_27, e138_28, e138_29, e138_41, e138_42, e138_43, e138_63, e138_64, e138_65, e138_83, e138_84, e138_85, e138_99, e138_100, e138_102, e138_105, e138_105n, e138_106, e138_107, xKv, xK0, xKx, xKHv, xKH0, xk_none, xk_i, xk_f, xk_l, xk_r, xk_n, xc_i, xc_f, xc_l, xc_d, xc_r, xc_n, xo_some, List.map_cons, List.map_nil, List.sum_cons, List.sum_nil, xnzn, xpn0, xpn1, xpnb, xpnn, i10, i00, true_imp_iff, false_imp_iff, not_true_eq_false, not_false_eq_true, true_and, and_true, implies_true, xnz0, xnz1, xnzb, xfz0, xfz1, xfzb, Option.isSome_some, if_true, if_false, xbF, xbT, and_false, false_and, Nat.zero_le, Nat.reduceEqDiff, Nat.reduceLeDiff, Nat.reduceAdd, Nat.reduceSub, xiT, xiF, eq_self, kq6_0, kq6_1, kq6_2, kq6_3, kq6_4, kq6_5]
  rw [e138_108]
  refine ⟨⟨by decide, W.is, by decide, by decide⟩, w_strike W hi (fun e ah' W' => ?_) (fun e => ?_) (fun e => ?_)⟩
  · have g := hR e ah' W'
    show xW _ _ _ _
    simp (disch := omega) only [e138_111, e138_352, xKv, xK0, xKx, xKHv, xKH0, xk_none, xk_i, xk_f, xk_l, xk_r, xk_n, xc_i, xc_f, xc_l, xc_d, xc_r, xc_n, xo_some, List.map_cons, List.map_nil, List.sum_cons, List.sum_nil, xnzn, xpn0, xpn1, xpnb, xpnn, i10, i00, true_imp_iff, false_imp_iff, not_true_eq_false, not_false_eq_true, true_and, and_true, implies_true, xnz0, xnz1, xnzb, xfz0, xfz1, xfzb, Option.isSome_some, if_true, if_false, xbF, xbT, and_false, false_and, Nat.zero_le, Nat.reduceEqDiff, Nat.reduceLeDiff, Nat.reduceAdd, Nat.reduceSub, xiT, xiF]
    exact g
  · have g := h1 e
    refine ⟨353, rfl, fun q => ?_⟩
    simp (disch := omega) only [e138_353, e138_353n, e138_355, e138_357, xKv, xK0, xKx, xKHv, xKH0, xk_none, xk_i, xk_f, xk_l, xk_r, xk_n, xc_i, xc_f, xc_l, xc_d, xc_r, xc_n, xo_some, List.map_cons, List.map_nil, List.sum_cons, List.sum_nil, xnzn, xpn0, xpn1, xpnb, xpnn, i10, i00, true_imp_iff, false_imp_iff, not_true_eq_false, not_false_eq_true, true_and, and_true, implies_true, xnz0, xnz1, xnzb, xfz0, xfz1, xfzb, Option.isSome_some, if_true, if_false, xbF, xbT, and_false, false_and, Nat.zero_le, Nat.reduceEqDiff, Nat.reduceLeDiff, Nat.reduceAdd, Nat.reduceSub, xiT, xiF]
    exact g
  · have g := h2 e
    refine ⟨363, rfl, fun q => ?_⟩
    simp (disch := omega) only [e138_363, e138_363n, e138_365, e138_367, xKv, xK0, xKx, xKHv, xKH0, xk_none, xk_i, xk_f, xk_l, xk_r, xk_n, xc_i, xc_f, xc_l, xc_d, xc_r, xc_n, xo_some, List.map_cons, List.map_nil, List.sum_cons, List.sum_nil, xnzn, xpn0, xpn1, xpnb, xpnn, i10, i00, true_imp_iff, false_imp_iff, not_true_eq_false, not_false_eq_true, true_and, and_true, implies_true, xnz0, xnz1, xnzb, xfz0, xfz1, xfzb, Option.isSome_some, if_true, if_false, xbF, xbT, and_false, false_and, Nat.zero_le, Nat.reduceEqDiff, Nat.reduceLeDiff, Nat.reduceAdd, Nat.reduceSub, xiT, xiF]
    exact g
theorem a_pass (hK : KI κ) (W : Wd κ x h0 σ i ah) {a b c d e : Int32} (hR : t_pass σ a = 0 → ∀ ah', Wd κ x h0 (s_pass σ a) i ah' → R (.inl (some (.int ((v_pass σ a))))) ah') (h1 : t_pass σ a = 1 → R (.inl (some (.int (-1692000)))) ah) (h2 : t_pass σ a = 2 → R (.inl (some (.int (-1693000)))) ah) : xm κ 138 [.ref x, .int 7, .int a, .int b, .int c, .int d, .int e] ah R := by
  rw [en138]
  simp (disch := omega) only [e138_0, e138_1, e138_13, e138_14, e138_15, e138_27, e138_28, e138_29, e138_41, e138_42, e138_43, e138_63, e138_64, e138_65, e138_83, e138_84, e138_85, e138_99, e138_100, e138_102, e138_114, e138_115, e138_117, e138_120, e138_120n, e138_121, xKv, xK0, xKx, xKHv, xKH0, xk_none, xk_i, xk_f, xk_l, xk_r, xk_n, xc_i, xc_f, xc_l, xc_d, xc_r, xc_n, xo_some, List.map_cons, List.map_nil, List.sum_cons, List.sum_nil, xnzn, xpn0, xpn1, xpnb, xpnn, i10, i00, true_imp_iff, false_imp_iff, not_true_eq_false, not_false_eq_true, true_and, and_true, implies_true, xnz0, xnz1, xnzb, xfz0, xfz1, xfzb, Option.isSome_some, if_true, if_false, xbF, xbT, and_false, false_and, Nat.zero_le, Nat.reduceEqDiff, Nat.reduceLeDiff, Nat.reduceAdd, Nat.reduceSub, xiT, xiF, eq_self, kq7_0, kq7_1, kq7_2, kq7_3, kq7_4, kq7_5, kq7_6]
  rw [e138_122]
  refine ⟨⟨by decide, W.is, by decide, by decide⟩, w_pass hK W (fun e ah' W' => ?_) (fun e => ?_) (fun e => ?_)⟩
  · have g := hR e ah' W'
    show xW _ _ _ _
    simp (disch := omega) only [e138_125, e138_352, xKv, xK0, xKx, xKHv, xKH0, xk_none, xk_i, xk_f, xk_l, xk_r, xk_n, xc_i, xc_f, xc_l, xc_d, xc_r, xc_n, xo_some, List.map_cons, List.map_nil, List.sum_cons, List.sum_nil, xnzn, xpn0, xpn1, xpnb, xpnn, i10, i00, true_imp_iff, false_imp_iff, not_true_eq_false, not_false_eq_true, true_and, and_true, implies_true, xnz0, xnz1, xnzb, xfz0, xfz1, xfzb, Option.isSome_some, if_true, if_false, xbF, xbT, and_false, false_and, Nat.zero_le, Nat.reduceEqDiff, Nat.reduceLeDiff, Nat.reduceAdd, Nat.reduceSub, xiT, xiF]
    exact g
  · have g := h1 e
    refine ⟨358, rfl, fun q => ?_⟩
    simp (disch := omega) only [e138_358, e138_358n, e138_360, e138_362, xKv, xK0, xKx, xKHv, xKH0, xk_none, xk_i, xk_f, xk_l, xk_r, xk_n, xc_i, xc_f, xc_l, xc_d, xc_r, xc_n, xo_some, List.map_cons, List.map_nil, List.sum_cons, List.sum_nil, xnzn, xpn0, xpn1, xpnb, xpnn, i10, i00, true_imp_iff, false_imp_iff, not_true_eq_false, not_false_eq_true, true_and, and_true, implies_true, xnz0, xnz1, xnzb, xfz0, xfz1, xfzb, Option.isSome_some, if_true, if_false, xbF, xbT, and_false, false_and, Nat.zero_le, Nat.reduceEqDiff, Nat.reduceLeDiff, Nat.reduceAdd, Nat.reduceSub, xiT, xiF]
    exact g
  · have g := h2 e
    refine ⟨363, rfl, fun q => ?_⟩
    simp (disch := omega) only [e138_363, e138_363n, e138_365, e138_367, xKv, xK0, xKx, xKHv, xKH0, xk_none, xk_i, xk_f, xk_l, xk_r, xk_n, xc_i, xc_f, xc_l, xc_d, xc_r, xc_n, xo_some, List.map_cons, List.map_nil, List.sum_cons, List.sum_nil, xnzn, xpn0, xpn1, xpnb, xpnn, i10, i00, true_imp_iff, false_imp_iff, not_true_eq_false, not_false_eq_true, true_and, and_true, implies_true, xnz0, xnz1, xnzb, xfz0, xfz1, xfzb, Option.isSome_some, if_true, if_false, xbF, xbT, and_false, false_and, Nat.zero_le, Nat.reduceEqDiff, Nat.reduceLeDiff, Nat.reduceAdd, Nat.reduceSub, xiT, xiF]
    exact g
theorem a_ofCoat (hK : KI κ) (W : Wd κ x h0 σ i ah) {a b c d e : Int32} (hR : t_ofCoat σ a b c d = 0 → ∀ ah', Wd κ x h0 σ i ah' → R (.inl (some (.int ((v_ofCoat σ a b c d))))) ah') (h1 : t_ofCoat σ a b c d = 1 → R (.inl (some (.int (-1691000)))) ah) (h2 : t_ofCoat σ a b c d = 2 → R (.inl (some (.int (-1692000)))) ah) : xm κ 138 [.ref x, .int 8, .int a, .int b, .int c, .int d, .int e] ah R := by
  rw [en138]
  simp (disch := omega) only [e138_0, e138_1, e138_13, e138_14, e138_15, e138_27, e138_28, e138_29, e138_41, e138_42, e138_43, e138_63, e138_64, e138_65, e138_83, e138_84, e138_85, e138_99, e138_100, e138_102, e138_114, e138_115, e138_117, e138_128, e138_129, e138_131, e138_134, e138_134n, e138_135, e138_136, e138_137, e138_139, xKv, xK0, xKx, xKHv, xKH0, xk_none, xk_i, xk_f, xk_l, xk_r, xk_n, xc_i, xc_f, xc_l, xc_d, xc_r, xc_n, xo_some, List.map_cons, List.map_nil, List.sum_cons, List.sum_nil, xnzn, xpn0, xpn1, xpnb, xpnn, i10, i00, true_imp_iff, false_imp_iff, not_true_eq_false, not_false_eq_true, true_and, and_true, implies_true, xnz0, xnz1, xnzb, xfz0, xfz1, xfzb, Option.isSome_some, if_true, if_false, xbF, xbT, and_false, false_and, Nat.zero_le, Nat.reduceEqDiff, Nat.reduceLeDiff, Nat.reduceAdd, Nat.reduceSub, xiT, xiF, eq_self, kq8_0, kq8_1, kq8_2, kq8_3, kq8_4, kq8_5, kq8_6, kq8_7]
  rw [e138_141]
  refine ⟨⟨by decide, W.is, by decide, by decide⟩, w_ofCoat hK W (fun e ah' W' => ?_) (fun e => ?_) (fun e => ?_)⟩
  · have g := hR e ah' W'
    show xW _ _ _ _
    simp (disch := omega) only [e138_144, e138_352, xKv, xK0, xKx, xKHv, xKH0, xk_none, xk_i, xk_f, xk_l, xk_r, xk_n, xc_i, xc_f, xc_l, xc_d, xc_r, xc_n, xo_some, List.map_cons, List.map_nil, List.sum_cons, List.sum_nil, xnzn, xpn0, xpn1, xpnb, xpnn, i10, i00, true_imp_iff, false_imp_iff, not_true_eq_false, not_false_eq_true, true_and, and_true, implies_true, xnz0, xnz1, xnzb, xfz0, xfz1, xfzb, Option.isSome_some, if_true, if_false, xbF, xbT, and_false, false_and, Nat.zero_le, Nat.reduceEqDiff, Nat.reduceLeDiff, Nat.reduceAdd, Nat.reduceSub, xiT, xiF]
    exact g
  · have g := h1 e
    refine ⟨353, rfl, fun q => ?_⟩
    simp (disch := omega) only [e138_353, e138_353n, e138_355, e138_357, xKv, xK0, xKx, xKHv, xKH0, xk_none, xk_i, xk_f, xk_l, xk_r, xk_n, xc_i, xc_f, xc_l, xc_d, xc_r, xc_n, xo_some, List.map_cons, List.map_nil, List.sum_cons, List.sum_nil, xnzn, xpn0, xpn1, xpnb, xpnn, i10, i00, true_imp_iff, false_imp_iff, not_true_eq_false, not_false_eq_true, true_and, and_true, implies_true, xnz0, xnz1, xnzb, xfz0, xfz1, xfzb, Option.isSome_some, if_true, if_false, xbF, xbT, and_false, false_and, Nat.zero_le, Nat.reduceEqDiff, Nat.reduceLeDiff, Nat.reduceAdd, Nat.reduceSub, xiT, xiF]
    exact g
  · have g := h2 e
    refine ⟨358, rfl, fun q => ?_⟩
    simp (disch := omega) only [e138_358, e138_358n, e138_360, e138_362, xKv, xK0, xKx, xKHv, xKH0, xk_none, xk_i, xk_f, xk_l, xk_r, xk_n, xc_i, xc_f, xc_l, xc_d, xc_r, xc_n, xo_some, List.map_cons, List.map_nil, List.sum_cons, List.sum_nil, xnzn, xpn0, xpn1, xpnb, xpnn, i10, i00, true_imp_iff, false_imp_iff, not_true_eq_false, not_false_eq_true, true_and, and_true, implies_true, xnz0, xnz1, xnzb, xfz0, xfz1, xfzb, Option.isSome_some, if_true, if_false, xbF, xbT, and_false, false_and, Nat.zero_le, Nat.reduceEqDiff, Nat.reduceLeDiff, Nat.reduceAdd, Nat.reduceSub, xiT, xiF]
    exact g
theorem a_coatsAnew  (W : Wd κ x h0 σ i ah) (hi : i < 1000) {a b c d e : Int32} (hR : t_coatsAnew σ a b = 0 → ∀ ah', Wd κ x h0 σ i ah' → R (.inl (some (.int ((v_coatsAnew σ a b))))) ah') (h1 : t_coatsAnew σ a b = 1 → R (.inl (some (.int (-1691000)))) ah) : xm κ 138 [.ref x, .int 9, .int a, .int b, .int c, .int d, .int e] ah R := by
  rw [en138]
  simp (disch := omega) only [e138_0, e138_1, e138_13, e138_14, e138_15, e138_27, e138_28, e138_29, e138_41, e138_42, e138_43, e138_63, e138_64, e138_65, e138_83, e138_84, e138_85, e138_99, e138_100, e138_102, e138_114, e138_115, e138_117, e138_128, e138_129, e138_131, e138_147, e138_148, e138_150, e138_153, e138_153n, e138_154, e138_155, xKv, xK0, xKx, xKHv, xKH0, xk_none, xk_i, xk_f, xk_l, xk_r, xk_n, xc_i, xc_f, xc_l, xc_d, xc_r, xc_n, xo_some, List.map_cons, List.map_nil, List.sum_cons, List.sum_nil, xnzn, xpn0, xpn1, xpnb, xpnn, i10, i00, true_imp_iff, false_imp_iff, not_true_eq_false, not_false_eq_true, true_and, and_true, implies_true, xnz0, xnz1, xnzb, xfz0, xfz1, xfzb, Option.isSome_some, if_true, if_false, xbF, xbT, and_false, false_and, Nat.zero_le, Nat.reduceEqDiff, Nat.reduceLeDiff, Nat.reduceAdd, Nat.reduceSub, xiT, xiF, eq_self, kq9_0, kq9_1, kq9_2, kq9_3, kq9_4, kq9_5, kq9_6, kq9_7, kq9_8]
  rw [e138_156]
  refine ⟨⟨by decide, W.is, by decide, by decide⟩, w_coatsAnew W hi (fun e ah' W' => ?_) (fun e => ?_)⟩
  · have g := hR e ah' W'
    show xW _ _ _ _
    simp (disch := omega) only [e138_159, e138_352, xKv, xK0, xKx, xKHv, xKH0, xk_none, xk_i, xk_f, xk_l, xk_r, xk_n, xc_i, xc_f, xc_l, xc_d, xc_r, xc_n, xo_some, List.map_cons, List.map_nil, List.sum_cons, List.sum_nil, xnzn, xpn0, xpn1, xpnb, xpnn, i10, i00, true_imp_iff, false_imp_iff, not_true_eq_false, not_false_eq_true, true_and, and_true, implies_true, xnz0, xnz1, xnzb, xfz0, xfz1, xfzb, Option.isSome_some, if_true, if_false, xbF, xbT, and_false, false_and, Nat.zero_le, Nat.reduceEqDiff, Nat.reduceLeDiff, Nat.reduceAdd, Nat.reduceSub, xiT, xiF]
    exact g
  · have g := h1 e
    refine ⟨353, rfl, fun q => ?_⟩
    simp (disch := omega) only [e138_353, e138_353n, e138_355, e138_357, xKv, xK0, xKx, xKHv, xKH0, xk_none, xk_i, xk_f, xk_l, xk_r, xk_n, xc_i, xc_f, xc_l, xc_d, xc_r, xc_n, xo_some, List.map_cons, List.map_nil, List.sum_cons, List.sum_nil, xnzn, xpn0, xpn1, xpnb, xpnn, i10, i00, true_imp_iff, false_imp_iff, not_true_eq_false, not_false_eq_true, true_and, and_true, implies_true, xnz0, xnz1, xnzb, xfz0, xfz1, xfzb, Option.isSome_some, if_true, if_false, xbF, xbT, and_false, false_and, Nat.zero_le, Nat.reduceEqDiff, Nat.reduceLeDiff, Nat.reduceAdd, Nat.reduceSub, xiT, xiF]
    exact g
theorem a_text (hK : KI κ) (hS : KS κ) (W : Wd κ x h0 σ i ah) {a b c d e : Int32} (hR : t_text σ a b c d = 0 → ∀ ah', Wd κ x h0 σ i ah' → R (.inl (some (.int ((v_text σ a b c d))))) ah') (h1 : t_text σ a b c d = 1 → R (.inl (some (.int (-1691000)))) ah) : xm κ 138 [.ref x, .int 10, .int a, .int b, .int c, .int d, .int e] ah R := by
  rw [en138]
  simp (disch := omega) only [e138_0, e138_1, e138_13, e138_14, e138_15, e138_27, e138_28, e138_29, e138_41, e138_42, e138_43, e138_63, e138_64, e138_65, e138_83, e138_84, e138_85, e138_99, e138_100, e138_102, e138_114, e138_115, e138_117, e138_128, e138_129, e138_131, e138_147, e138_148, e138_150, e138_162, e138_163, e138_165, e138_168, e138_168n, e138_169, e138_170, e138_171, e138_173, xKv, xK0, xKx, xKHv, xKH0, xk_none, xk_i, xk_f, xk_l, xk_r, xk_n, xc_i, xc_f, xc_l, xc_d, xc_r, xc_n, xo_some, List.map_cons, List.map_nil, List.sum_cons, List.sum_nil, xnzn, xpn0, xpn1, xpnb, xpnn, i10, i00, true_imp_iff, false_imp_iff, not_true_eq_false, not_false_eq_true, true_and, and_true, implies_true, xnz0, xnz1, xnzb, xfz0, xfz1, xfzb, Option.isSome_some, if_true, if_false, xbF, xbT, and_false, false_and, Nat.zero_le, Nat.reduceEqDiff, Nat.reduceLeDiff, Nat.reduceAdd, Nat.reduceSub, xiT, xiF, eq_self, kq10_0, kq10_1, kq10_2, kq10_3, kq10_4, kq10_5, kq10_6, kq10_7, kq10_8, kq10_9]
  rw [e138_175]
  refine ⟨⟨by decide, W.is, by decide, by decide⟩, w_text hK hS W (fun e ah' W' => ?_) (fun e => ?_)⟩
  · have g := hR e ah' W'
    show xW _ _ _ _
    simp (disch := omega) only [e138_178, e138_352, xKv, xK0, xKx, xKHv, xKH0, xk_none, xk_i, xk_f, xk_l, xk_r, xk_n, xc_i, xc_f, xc_l, xc_d, xc_r, xc_n, xo_some, List.map_cons, List.map_nil, List.sum_cons, List.sum_nil, xnzn, xpn0, xpn1, xpnb, xpnn, i10, i00, true_imp_iff, false_imp_iff, not_true_eq_false, not_false_eq_true, true_and, and_true, implies_true, xnz0, xnz1, xnzb, xfz0, xfz1, xfzb, Option.isSome_some, if_true, if_false, xbF, xbT, and_false, false_and, Nat.zero_le, Nat.reduceEqDiff, Nat.reduceLeDiff, Nat.reduceAdd, Nat.reduceSub, xiT, xiF]
    exact g
  · have g := h1 e
    refine ⟨353, rfl, fun q => ?_⟩
    simp (disch := omega) only [e138_353, e138_353n, e138_355, e138_357, xKv, xK0, xKx, xKHv, xKH0, xk_none, xk_i, xk_f, xk_l, xk_r, xk_n, xc_i, xc_f, xc_l, xc_d, xc_r, xc_n, xo_some, List.map_cons, List.map_nil, List.sum_cons, List.sum_nil, xnzn, xpn0, xpn1, xpnb, xpnn, i10, i00, true_imp_iff, false_imp_iff, not_true_eq_false, not_false_eq_true, true_and, and_true, implies_true, xnz0, xnz1, xnzb, xfz0, xfz1, xfzb, Option.isSome_some, if_true, if_false, xbF, xbT, and_false, false_and, Nat.zero_le, Nat.reduceEqDiff, Nat.reduceLeDiff, Nat.reduceAdd, Nat.reduceSub, xiT, xiF]
    exact g
theorem a_profile  (W : Wd κ x h0 σ i ah) {a b c d e : Int32} (hR : t_profile σ a = 0 → ∀ ah', Wd κ x h0 (s_profile σ a) i ah' → R (.inl (some (.int ((v_profile σ a))))) ah') (h1 : t_profile σ a = 1 → R (.inl (some (.int (-1692000)))) ah) (h2 : t_profile σ a = 2 → R (.inl (some (.int (-1693000)))) ah) : xm κ 138 [.ref x, .int 11, .int a, .int b, .int c, .int d, .int e] ah R := by
  rw [en138]
  simp (disch := omega) only [e138_0, e138_1, e138_13, e138_14, e138_15, e138_27, e138_28, e138_29, e138_41, e138_42, e138_43, e138_63, e138_64, e138_65, e138_83, e138_84, e138_85, e138_99, e138_100, e138_102, e138_114, e138_115, e138_117, e138_128, e138_129, e138_131, e138_147, e138_148, e138_150, e138_162, e138_163, e138_165, e138_181, e138_182, e138_184, e138_187, e138_187n, e138_188, xKv, xK0, xKx, xKHv, xKH0, xk_none, xk_i, xk_f, xk_l, xk_r, xk_n, xc_i, xc_f, xc_l, xc_d, xc_r, xc_n, xo_some, List.map_cons, List.map_nil, List.sum_cons, List.sum_nil, xnzn, xpn0, xpn1, xpnb, xpnn, i10, i00, true_imp_iff, false_imp_iff, not_true_eq_false, not_false_eq_true, true_and, and_true, implies_true, xnz0, xnz1, xnzb, xfz0, xfz1, xfzb, Option.isSome_some, if_true, if_false, xbF, xbT, and_false, false_and, Nat.zero_le, Nat.reduceEqDiff, Nat.reduceLeDiff, Nat.reduceAdd, Nat.reduceSub, xiT, xiF, eq_self, kq11_0, kq11_1, kq11_2, kq11_3, kq11_4, kq11_5, kq11_6, kq11_7, kq11_8, kq11_9, kq11_10]
  rw [e138_189]
  refine ⟨⟨by decide, W.is, by decide, by decide⟩, w_profile W (fun e ah' W' => ?_) (fun e => ?_) (fun e => ?_)⟩
  · have g := hR e ah' W'
    show xW _ _ _ _
    simp (disch := omega) only [e138_192, e138_352, xKv, xK0, xKx, xKHv, xKH0, xk_none, xk_i, xk_f, xk_l, xk_r, xk_n, xc_i, xc_f, xc_l, xc_d, xc_r, xc_n, xo_some, List.map_cons, List.map_nil, List.sum_cons, List.sum_nil, xnzn, xpn0, xpn1, xpnb, xpnn, i10, i00, true_imp_iff, false_imp_iff, not_true_eq_false, not_false_eq_true, true_and, and_true, implies_true, xnz0, xnz1, xnzb, xfz0, xfz1, xfzb, Option.isSome_some, if_true, if_false, xbF, xbT, and_false, false_and, Nat.zero_le, Nat.reduceEqDiff, Nat.reduceLeDiff, Nat.reduceAdd, Nat.reduceSub, xiT, xiF]
    exact g
  · have g := h1 e
    refine ⟨358, rfl, fun q => ?_⟩
    simp (disch := omega) only [e138_358, e138_358n, e138_360, e138_362, xKv, xK0, xKx, xKHv, xKH0, xk_none, xk_i, xk_f, xk_l, xk_r, xk_n, xc_i, xc_f, xc_l, xc_d, xc_r, xc_n, xo_some, List.map_cons, List.map_nil, List.sum_cons, List.sum_nil, xnzn, xpn0, xpn1, xpnb, xpnn, i10, i00, true_imp_iff, false_imp_iff, not_true_eq_false, not_false_eq_true, true_and, and_true, implies_true, xnz0, xnz1, xnzb, xfz0, xfz1, xfzb, Option.isSome_some, if_true, if_false, xbF, xbT, and_false, false_and, Nat.zero_le, Nat.reduceEqDiff, Nat.reduceLeDiff, Nat.reduceAdd, Nat.reduceSub, xiT, xiF]
    exact g
  · have g := h2 e
    refine ⟨363, rfl, fun q => ?_⟩
    simp (disch := omega) only [e138_363, e138_363n, e138_365, e138_367, xKv, xK0, xKx, xKHv, xKH0, xk_none, xk_i, xk_f, xk_l, xk_r, xk_n, xc_i, xc_f, xc_l, xc_d, xc_r, xc_n, xo_some, List.map_cons, List.map_nil, List.sum_cons, List.sum_nil, xnzn, xpn0, xpn1, xpnb, xpnn, i10, i00, true_imp_iff, false_imp_iff, not_true_eq_false, not_false_eq_true, true_and, and_true, implies_true, xnz0, xnz1, xnzb, xfz0, xfz1, xfzb, Option.isSome_some, if_true, if_false, xbF, xbT, and_false, false_and, Nat.zero_le, Nat.reduceEqDiff, Nat.reduceLeDiff, Nat.reduceAdd, Nat.reduceSub, xiT, xiF]
    exact g
theorem a_depth  (W : Wd κ x h0 σ i ah) {a b c d e : Int32} (hR : t_depth σ a b = 0 → ∀ ah', Wd κ x h0 (s_depth σ a b) i ah' → R (.inl (some (.int ((v_depth σ a b))))) ah') (h1 : t_depth σ a b = 1 → R (.inl (some (.int (-1691000)))) ah) (h2 : t_depth σ a b = 2 → R (.inl (some (.int (-1692000)))) ah) (h3 : t_depth σ a b = 3 → R (.inl (some (.int (-1693000)))) ah) : xm κ 138 [.ref x, .int 12, .int a, .int b, .int c, .int d, .int e] ah R := by
  rw [en138]
  simp (disch := omega) only [e138_0, e138_1, e138_13, e138_14, e138_15, e138_27, e138_28, e138_29, e138_41, e138_42, e138_43, e138_63, e138_64, e138_65, e138_83, e138_84, e138_85, e138_99, e138_100, e138_102, e138_114, e138_115, e138_117, e138_128, e138_129, e138_131, e138_147, e138_148, e138_150, e138_162, e138_163, e138_165, e138_181, e138_182, e138_184, e138_195, e138_196, e138_198, e138_201, e138_201n, e138_202, e138_203, xKv, xK0, xKx, xKHv, xKH0, xk_none, xk_i, xk_f, xk_l, xk_r, xk_n, xc_i, xc_f, xc_l, xc_d, xc_r, xc_n, xo_some, List.map_cons, List.map_nil, List.sum_cons, List.sum_nil, xnzn, xpn0, xpn1, xpnb, xpnn, i10, i00, true_imp_iff, false_imp_iff, not_true_eq_false, not_false_eq_true, true_and, and_true, implies_true, xnz0, xnz1, xnzb, xfz0, xfz1, xfzb, Option.isSome_some, if_true, if_false, xbF, xbT, and_false, false_and, Nat.zero_le, Nat.reduceEqDiff, Nat.reduceLeDiff, Nat.reduceAdd, Nat.reduceSub, xiT, xiF, eq_self, kq12_0, kq12_1, kq12_2, kq12_3, kq12_4, kq12_5, kq12_6, kq12_7, kq12_8, kq12_9, kq12_10, kq12_11]
  rw [e138_204]
  refine ⟨⟨by decide, W.is, by decide, by decide⟩, w_depth W (fun e ah' W' => ?_) (fun e => ?_) (fun e => ?_) (fun e => ?_)⟩
  · have g := hR e ah' W'
    show xW _ _ _ _
    simp (disch := omega) only [e138_207, e138_352, xKv, xK0, xKx, xKHv, xKH0, xk_none, xk_i, xk_f, xk_l, xk_r, xk_n, xc_i, xc_f, xc_l, xc_d, xc_r, xc_n, xo_some, List.map_cons, List.map_nil, List.sum_cons, List.sum_nil, xnzn, xpn0, xpn1, xpnb, xpnn, i10, i00, true_imp_iff, false_imp_iff, not_true_eq_false, not_false_eq_true, true_and, and_true, implies_true, xnz0, xnz1, xnzb, xfz0, xfz1, xfzb, Option.isSome_some, if_true, if_false, xbF, xbT, and_false, false_and, Nat.zero_le, Nat.reduceEqDiff, Nat.reduceLeDiff, Nat.reduceAdd, Nat.reduceSub, xiT, xiF]
    exact g
  · have g := h1 e
    refine ⟨353, rfl, fun q => ?_⟩
    simp (disch := omega) only [e138_353, e138_353n, e138_355, e138_357, xKv, xK0, xKx, xKHv, xKH0, xk_none, xk_i, xk_f, xk_l, xk_r, xk_n, xc_i, xc_f, xc_l, xc_d, xc_r, xc_n, xo_some, List.map_cons, List.map_nil, List.sum_cons, List.sum_nil, xnzn, xpn0, xpn1, xpnb, xpnn, i10, i00, true_imp_iff, false_imp_iff, not_true_eq_false, not_false_eq_true, true_and, and_true, implies_true, xnz0, xnz1, xnzb, xfz0, xfz1, xfzb, Option.isSome_some, if_true, if_false, xbF, xbT, and_false, false_and, Nat.zero_le, Nat.reduceEqDiff, Nat.reduceLeDiff, Nat.reduceAdd, Nat.reduceSub, xiT, xiF]
    exact g
  · have g := h2 e
    refine ⟨358, rfl, fun q => ?_⟩
    simp (disch := omega) only [e138_358, e138_358n, e138_360, e138_362, xKv, xK0, xKx, xKHv, xKH0, xk_none, xk_i, xk_f, xk_l, xk_r, xk_n, xc_i, xc_f, xc_l, xc_d, xc_r, xc_n, xo_some, List.map_cons, List.map_nil, List.sum_cons, List.sum_nil, xnzn, xpn0, xpn1, xpnb, xpnn, i10, i00, true_imp_iff, false_imp_iff, not_true_eq_false, not_false_eq_true, true_and, and_true, implies_true, xnz0, xnz1, xnzb, xfz0, xfz1, xfzb, Option.isSome_some, if_true, if_false, xbF, xbT, and_false, false_and, Nat.zero_le, Nat.reduceEqDiff, Nat.reduceLeDiff, Nat.reduceAdd, Nat.reduceSub, xiT, xiF]
    exact g
  · have g := h3 e
    refine ⟨363, rfl, fun q => ?_⟩
    simp (disch := omega) only [e138_363, e138_363n, e138_365, e138_367, xKv, xK0, xKx, xKHv, xKH0, xk_none, xk_i, xk_f, xk_l, xk_r, xk_n, xc_i, xc_f, xc_l, xc_d, xc_r, xc_n, xo_some, List.map_cons, List.map_nil, List.sum_cons, List.sum_nil, xnzn, xpn0, xpn1, xpnb, xpnn, i10, i00, true_imp_iff, false_imp_iff, not_true_eq_false, not_false_eq_true, true_and, and_true, implies_true, xnz0, xnz1, xnzb, xfz0, xfz1, xfzb, Option.isSome_some, if_true, if_false, xbF, xbT, and_false, false_and, Nat.zero_le, Nat.reduceEqDiff, Nat.reduceLeDiff, Nat.reduceAdd, Nat.reduceSub, xiT, xiF]
    exact g
theorem a_mitre  (W : Wd κ x h0 σ i ah) {a b c d e : Int32} (hv : t_mitre σ a b = 0 → vf_n32 (FP.fmul (v_mitre σ a b) 1166016512)) (hR : t_mitre σ a b = 0 → ∀ ah', Wd κ x h0 σ i ah' → R (.inl (some (.int (FP.f2i (FP.fmul (v_mitre σ a b) 1166016512))))) ah') (h1 : t_mitre σ a b = 1 → R (.inl (some (.int (-1691000)))) ah) : xm κ 138 [.ref x, .int 13, .int a, .int b, .int c, .int d, .int e] ah R := by
  rw [en138]
  simp (disch := omega) only [e138_0, e138_1, e138_13, e138_14, e138_15, e138_27, e138_28, e138_29, e138_41, e138_42, e138_43, e138_63, e138_64, e138_65, e138_83, e138_84, e138_85, e138_99, e138_100, e138_102, e138_114, e138_115, e138_117, e138_128, e138_129, e138_131, e138_147, e138_148, e138_150, e138_162, e138_163, e138_165, e138_181, e138_182, e138_184, e138_195, e138_196, e138_198, e138_210, e138_211, e138_213, e138_216, e138_216n, e138_217, e138_218, xKv, xK0, xKx, xKHv, xKH0, xk_none, xk_i, xk_f, xk_l, xk_r, xk_n, xc_i, xc_f, xc_l, xc_d, xc_r, xc_n, xo_some, List.map_cons, List.map_nil, List.sum_cons, List.sum_nil, xnzn, xpn0, xpn1, xpnb, xpnn, i10, i00, true_imp_iff, false_imp_iff, not_true_eq_false, not_false_eq_true, true_and, and_true, implies_true, xnz0, xnz1, xnzb, xfz0, xfz1, xfzb, Option.isSome_some, if_true, if_false, xbF, xbT, and_false, false_and, Nat.zero_le, Nat.reduceEqDiff, Nat.reduceLeDiff, Nat.reduceAdd, Nat.reduceSub, xiT, xiF, eq_self, kq13_0, kq13_1, kq13_2, kq13_3, kq13_4, kq13_5, kq13_6, kq13_7, kq13_8, kq13_9, kq13_10, kq13_11, kq13_12]
  rw [e138_219]
  refine ⟨⟨by decide, W.is, by decide, by decide⟩, w_mitre W (fun e ah' W' => ?_) (fun e => ?_)⟩
  · have g := hR e ah' W'
    show xW _ _ _ _
    simp (disch := omega) only [e138_222, e138_224, e138_225, e138_226, e138_352, xKv, xK0, xKx, xKHv, xKH0, xk_none, xk_i, xk_f, xk_l, xk_r, xk_n, xc_i, xc_f, xc_l, xc_d, xc_r, xc_n, xo_some, List.map_cons, List.map_nil, List.sum_cons, List.sum_nil, xnzn, xpn0, xpn1, xpnb, xpnn, i10, i00, true_imp_iff, false_imp_iff, not_true_eq_false, not_false_eq_true, true_and, and_true, implies_true, xnz0, xnz1, xnzb, xfz0, xfz1, xfzb, Option.isSome_some, if_true, if_false, xbF, xbT, and_false, false_and, Nat.zero_le, Nat.reduceEqDiff, Nat.reduceLeDiff, Nat.reduceAdd, Nat.reduceSub, xiT, xiF, hv e]
    exact g
  · have g := h1 e
    refine ⟨353, rfl, fun q => ?_⟩
    simp (disch := omega) only [e138_353, e138_353n, e138_355, e138_357, xKv, xK0, xKx, xKHv, xKH0, xk_none, xk_i, xk_f, xk_l, xk_r, xk_n, xc_i, xc_f, xc_l, xc_d, xc_r, xc_n, xo_some, List.map_cons, List.map_nil, List.sum_cons, List.sum_nil, xnzn, xpn0, xpn1, xpnb, xpnn, i10, i00, true_imp_iff, false_imp_iff, not_true_eq_false, not_false_eq_true, true_and, and_true, implies_true, xnz0, xnz1, xnzb, xfz0, xfz1, xfzb, Option.isSome_some, if_true, if_false, xbF, xbT, and_false, false_and, Nat.zero_le, Nat.reduceEqDiff, Nat.reduceLeDiff, Nat.reduceAdd, Nat.reduceSub, xiT, xiF]
    exact g
theorem a_fits  (W : Wd κ x h0 σ i ah) {a b c d e : Int32} (hR : t_fits a b = 0 → ∀ ah', Wd κ x h0 σ i ah' → R (.inl (some (.int ((v_fits a b))))) ah') (h1 : t_fits a b = 1 → R (.inl (some (.int (-1692000)))) ah) : xm κ 138 [.ref x, .int 14, .int a, .int b, .int c, .int d, .int e] ah R := by
  rw [en138]
  simp (disch := omega) only [e138_0, e138_1, e138_13, e138_14, e138_15, e138_27, e138_28, e138_29, e138_41, e138_42, e138_43, e138_63, e138_64, e138_65, e138_83, e138_84, e138_85, e138_99, e138_100, e138_102, e138_114, e138_115, e138_117, e138_128, e138_129, e138_131, e138_147, e138_148, e138_150, e138_162, e138_163, e138_165, e138_181, e138_182, e138_184, e138_195, e138_196, e138_198, e138_210, e138_211, e138_213, e138_229, e138_230, e138_232, e138_235, e138_235n, e138_236, e138_237, xKv, xK0, xKx, xKHv, xKH0, xk_none, xk_i, xk_f, xk_l, xk_r, xk_n, xc_i, xc_f, xc_l, xc_d, xc_r, xc_n, xo_some, List.map_cons, List.map_nil, List.sum_cons, List.sum_nil, xnzn, xpn0, xpn1, xpnb, xpnn, i10, i00, true_imp_iff, false_imp_iff, not_true_eq_false, not_false_eq_true, true_and, and_true, implies_true, xnz0, xnz1, xnzb, xfz0, xfz1, xfzb, Option.isSome_some, if_true, if_false, xbF, xbT, and_false, false_and, Nat.zero_le, Nat.reduceEqDiff, Nat.reduceLeDiff, Nat.reduceAdd, Nat.reduceSub, xiT, xiF, eq_self, kq14_0, kq14_1, kq14_2, kq14_3, kq14_4, kq14_5, kq14_6, kq14_7, kq14_8, kq14_9, kq14_10, kq14_11, kq14_12, kq14_13]
  rw [e138_238]
  refine ⟨⟨by decide, W.is, by decide, by decide⟩, w_fits W (fun e ah' W' => ?_) (fun e => ?_)⟩
  · have g := hR e ah' W'
    show xW _ _ _ _
    simp (disch := omega) only [e138_241, e138_352, xKv, xK0, xKx, xKHv, xKH0, xk_none, xk_i, xk_f, xk_l, xk_r, xk_n, xc_i, xc_f, xc_l, xc_d, xc_r, xc_n, xo_some, List.map_cons, List.map_nil, List.sum_cons, List.sum_nil, xnzn, xpn0, xpn1, xpnb, xpnn, i10, i00, true_imp_iff, false_imp_iff, not_true_eq_false, not_false_eq_true, true_and, and_true, implies_true, xnz0, xnz1, xnzb, xfz0, xfz1, xfzb, Option.isSome_some, if_true, if_false, xbF, xbT, and_false, false_and, Nat.zero_le, Nat.reduceEqDiff, Nat.reduceLeDiff, Nat.reduceAdd, Nat.reduceSub, xiT, xiF]
    exact g
  · have g := h1 e
    refine ⟨358, rfl, fun q => ?_⟩
    simp (disch := omega) only [e138_358, e138_358n, e138_360, e138_362, xKv, xK0, xKx, xKHv, xKH0, xk_none, xk_i, xk_f, xk_l, xk_r, xk_n, xc_i, xc_f, xc_l, xc_d, xc_r, xc_n, xo_some, List.map_cons, List.map_nil, List.sum_cons, List.sum_nil, xnzn, xpn0, xpn1, xpnb, xpnn, i10, i00, true_imp_iff, false_imp_iff, not_true_eq_false, not_false_eq_true, true_and, and_true, implies_true, xnz0, xnz1, xnzb, xfz0, xfz1, xfzb, Option.isSome_some, if_true, if_false, xbF, xbT, and_false, false_and, Nat.zero_le, Nat.reduceEqDiff, Nat.reduceLeDiff, Nat.reduceAdd, Nat.reduceSub, xiT, xiF]
    exact g
theorem a_step  (W : Wd κ x h0 σ i ah) {a b c d e : Int32} (hR : t_fits a b = 0 → ∀ ah', Wd κ x h0 σ i ah' → R (.inl (some (.int (FP.f2i (v_step a b))))) ah') (h1 : t_fits a b = 1 → R (.inl (some (.int (-1692000)))) ah) : xm κ 138 [.ref x, .int 15, .int a, .int b, .int c, .int d, .int e] ah R := by
  rw [en138]
  simp (disch := omega) only [e138_0, e138_1, e138_13, e138_14, e138_15, e138_27, e138_28, e138_29, e138_41, e138_42, e138_43, e138_63, e138_64, e138_65, e138_83, e138_84, e138_85, e138_99, e138_100, e138_102, e138_114, e138_115, e138_117, e138_128, e138_129, e138_131, e138_147, e138_148, e138_150, e138_162, e138_163, e138_165, e138_181, e138_182, e138_184, e138_195, e138_196, e138_198, e138_210, e138_211, e138_213, e138_229, e138_230, e138_232, e138_244, e138_245, e138_247, e138_250, e138_250n, e138_251, e138_252, xKv, xK0, xKx, xKHv, xKH0, xk_none, xk_i, xk_f, xk_l, xk_r, xk_n, xc_i, xc_f, xc_l, xc_d, xc_r, xc_n, xo_some, List.map_cons, List.map_nil, List.sum_cons, List.sum_nil, xnzn, xpn0, xpn1, xpnb, xpnn, i10, i00, true_imp_iff, false_imp_iff, not_true_eq_false, not_false_eq_true, true_and, and_true, implies_true, xnz0, xnz1, xnzb, xfz0, xfz1, xfzb, Option.isSome_some, if_true, if_false, xbF, xbT, and_false, false_and, Nat.zero_le, Nat.reduceEqDiff, Nat.reduceLeDiff, Nat.reduceAdd, Nat.reduceSub, xiT, xiF, eq_self, kq15_0, kq15_1, kq15_2, kq15_3, kq15_4, kq15_5, kq15_6, kq15_7, kq15_8, kq15_9, kq15_10, kq15_11, kq15_12, kq15_13, kq15_14]
  rw [e138_253]
  refine ⟨⟨by decide, W.is, by decide, by decide⟩, w_step W (fun e ah' W' => ?_) (fun e => ?_)⟩
  · have g := hR e ah' W'
    show xW _ _ _ _
    simp (disch := omega) only [e138_256, e138_257, e138_352, xKv, xK0, xKx, xKHv, xKH0, xk_none, xk_i, xk_f, xk_l, xk_r, xk_n, xc_i, xc_f, xc_l, xc_d, xc_r, xc_n, xo_some, List.map_cons, List.map_nil, List.sum_cons, List.sum_nil, xnzn, xpn0, xpn1, xpnb, xpnn, i10, i00, true_imp_iff, false_imp_iff, not_true_eq_false, not_false_eq_true, true_and, and_true, implies_true, xnz0, xnz1, xnzb, xfz0, xfz1, xfzb, Option.isSome_some, if_true, if_false, xbF, xbT, and_false, false_and, Nat.zero_le, Nat.reduceEqDiff, Nat.reduceLeDiff, Nat.reduceAdd, Nat.reduceSub, xiT, xiF]
    exact g
  · have g := h1 e
    refine ⟨358, rfl, fun q => ?_⟩
    simp (disch := omega) only [e138_358, e138_358n, e138_360, e138_362, xKv, xK0, xKx, xKHv, xKH0, xk_none, xk_i, xk_f, xk_l, xk_r, xk_n, xc_i, xc_f, xc_l, xc_d, xc_r, xc_n, xo_some, List.map_cons, List.map_nil, List.sum_cons, List.sum_nil, xnzn, xpn0, xpn1, xpnb, xpnn, i10, i00, true_imp_iff, false_imp_iff, not_true_eq_false, not_false_eq_true, true_and, and_true, implies_true, xnz0, xnz1, xnzb, xfz0, xfz1, xfzb, Option.isSome_some, if_true, if_false, xbF, xbT, and_false, false_and, Nat.zero_le, Nat.reduceEqDiff, Nat.reduceLeDiff, Nat.reduceAdd, Nat.reduceSub, xiT, xiF]
    exact g
theorem a_cut  (W : Wd κ x h0 σ i ah) {a b c d e : Int32} (hR : t_cut a b c = 0 → ∀ ah', Wd κ x h0 σ i ah' → R (.inl (some (.int ((v_cut a b c))))) ah') (h1 : t_cut a b c = 1 → R (.inl (some (.int (-1692000)))) ah) : xm κ 138 [.ref x, .int 16, .int a, .int b, .int c, .int d, .int e] ah R := by
  rw [en138]
  simp (disch := omega) only [e138_0, e138_1, e138_13, e138_14, e138_15, e138_27, e138_28, e138_29, e138_41, e138_42, e138_43, e138_63, e138_64, e138_65, e138_83, e138_84, e138_85, e138_99, e138_100, e138_102, e138_114, e138_115, e138_117, e138_128, e138_129, e138_131, e138_147, e138_148, e138_150, e138_162, e138_163, e138_165, e138_181, e138_182, e138_184, e138_195, e138_196, e138_198, e138_210, e138_211, e138_213, e138_229, e138_230, e138_232, e138_244, e138_245, e138_247, e138_260, e138_261, e138_263, e138_266, e138_266n, e138_267, e138_268, e138_269, xKv, xK0, xKx, xKHv, xKH0, xk_none, xk_i, xk_f, xk_l, xk_r, xk_n, xc_i, xc_f, xc_l, xc_d, xc_r, xc_n, xo_some, List.map_cons, List.map_nil, List.sum_cons, List.sum_nil, xnzn, xpn0, xpn1, xpnb, xpnn, i10, i00, true_imp_iff, false_imp_iff, not_true_eq_false, not_false_eq_true, true_and, and_true, implies_true, xnz0, xnz1, xnzb, xfz0, xfz1, xfzb, Option.isSome_some, if_true, if_false, xbF, xbT, and_false, false_and, Nat.zero_le, Nat.reduceEqDiff, Nat.reduceLeDiff, Nat.reduceAdd, Nat.reduceSub, xiT, xiF, eq_self, kq16_0, kq16_1, kq16_2, kq16_3, kq16_4, kq16_5, kq16_6, kq16_7, kq16_8, kq16_9, kq16_10, kq16_11, kq16_12, kq16_13, kq16_14, kq16_15]
  rw [e138_271]
  refine ⟨⟨by decide, W.is, by decide, by decide⟩, w_cut W (fun e ah' W' => ?_) (fun e => ?_)⟩
  · have g := hR e ah' W'
    show xW _ _ _ _
    simp (disch := omega) only [e138_274, e138_352, xKv, xK0, xKx, xKHv, xKH0, xk_none, xk_i, xk_f, xk_l, xk_r, xk_n, xc_i, xc_f, xc_l, xc_d, xc_r, xc_n, xo_some, List.map_cons, List.map_nil, List.sum_cons, List.sum_nil, xnzn, xpn0, xpn1, xpnb, xpnn, i10, i00, true_imp_iff, false_imp_iff, not_true_eq_false, not_false_eq_true, true_and, and_true, implies_true, xnz0, xnz1, xnzb, xfz0, xfz1, xfzb, Option.isSome_some, if_true, if_false, xbF, xbT, and_false, false_and, Nat.zero_le, Nat.reduceEqDiff, Nat.reduceLeDiff, Nat.reduceAdd, Nat.reduceSub, xiT, xiF]
    exact g
  · have g := h1 e
    refine ⟨358, rfl, fun q => ?_⟩
    simp (disch := omega) only [e138_358, e138_358n, e138_360, e138_362, xKv, xK0, xKx, xKHv, xKH0, xk_none, xk_i, xk_f, xk_l, xk_r, xk_n, xc_i, xc_f, xc_l, xc_d, xc_r, xc_n, xo_some, List.map_cons, List.map_nil, List.sum_cons, List.sum_nil, xnzn, xpn0, xpn1, xpnb, xpnn, i10, i00, true_imp_iff, false_imp_iff, not_true_eq_false, not_false_eq_true, true_and, and_true, implies_true, xnz0, xnz1, xnzb, xfz0, xfz1, xfzb, Option.isSome_some, if_true, if_false, xbF, xbT, and_false, false_and, Nat.zero_le, Nat.reduceEqDiff, Nat.reduceLeDiff, Nat.reduceAdd, Nat.reduceSub, xiT, xiF]
    exact g
theorem a_window  (W : Wd κ x h0 σ i ah) {a b c d e : Int32} (hR : t_window a b = 0 → ∀ ah', Wd κ x h0 (s_window σ a b) i ah' → R (.inl (some (.int ((v_window σ a b))))) ah') (h1 : t_window a b = 1 → R (.inl (some (.int (-1691000)))) ah) (h2 : t_window a b = 2 → R (.inl (some (.int (-1692000)))) ah) : xm κ 138 [.ref x, .int 17, .int a, .int b, .int c, .int d, .int e] ah R := by
  rw [en138]
  simp (disch := omega) only [e138_0, e138_1, e138_13, e138_14, e138_15, e138_27, e138_28, e138_29, e138_41, e138_42, e138_43, e138_63, e138_64, e138_65, e138_83, e138_84, e138_85, e138_99, e138_100, e138_102, e138_114, e138_115, e138_117, e138_128, e138_129, e138_131, e138_147, e138_148, e138_150, e138_162, e138_163, e138_165, e138_181, e138_182, e138_184, e138_195, e138_196, e138_198, e138_210, e138_211, e138_213, e138_229, e138_230, e138_232, e138_244, e138_245, e138_247, e138_260, e138_261, e138_263, e138_277, e138_278, e138_280, e138_283, e138_283n, e138_284, e138_285, xKv, xK0, xKx, xKHv, xKH0, xk_none, xk_i, xk_f, xk_l, xk_r, xk_n, xc_i, xc_f, xc_l, xc_d, xc_r, xc_n, xo_some, List.map_cons, List.map_nil, List.sum_cons, List.sum_nil, xnzn, xpn0, xpn1, xpnb, xpnn, i10, i00, true_imp_iff, false_imp_iff, not_true_eq_false, not_false_eq_true, true_and, and_true, implies_true, xnz0, xnz1, xnzb, xfz0, xfz1, xfzb, Option.isSome_some, if_true, if_false, xbF, xbT, and_false, false_and, Nat.zero_le, Nat.reduceEqDiff, Nat.reduceLeDiff, Nat.reduceAdd, Nat.reduceSub, xiT, xiF, eq_self, kq17_0, kq17_1, kq17_2, kq17_3, kq17_4, kq17_5, kq17_6, kq17_7, kq17_8, kq17_9, kq17_10, kq17_11, kq17_12, kq17_13, kq17_14, kq17_15, kq17_16]
  rw [e138_286]
  refine ⟨⟨by decide, W.is, by decide, by decide⟩, w_window W (fun e ah' W' => ?_) (fun e => ?_) (fun e => ?_)⟩
  · have g := hR e ah' W'
    show xW _ _ _ _
    simp (disch := omega) only [e138_289, e138_352, xKv, xK0, xKx, xKHv, xKH0, xk_none, xk_i, xk_f, xk_l, xk_r, xk_n, xc_i, xc_f, xc_l, xc_d, xc_r, xc_n, xo_some, List.map_cons, List.map_nil, List.sum_cons, List.sum_nil, xnzn, xpn0, xpn1, xpnb, xpnn, i10, i00, true_imp_iff, false_imp_iff, not_true_eq_false, not_false_eq_true, true_and, and_true, implies_true, xnz0, xnz1, xnzb, xfz0, xfz1, xfzb, Option.isSome_some, if_true, if_false, xbF, xbT, and_false, false_and, Nat.zero_le, Nat.reduceEqDiff, Nat.reduceLeDiff, Nat.reduceAdd, Nat.reduceSub, xiT, xiF]
    exact g
  · have g := h1 e
    refine ⟨353, rfl, fun q => ?_⟩
    simp (disch := omega) only [e138_353, e138_353n, e138_355, e138_357, xKv, xK0, xKx, xKHv, xKH0, xk_none, xk_i, xk_f, xk_l, xk_r, xk_n, xc_i, xc_f, xc_l, xc_d, xc_r, xc_n, xo_some, List.map_cons, List.map_nil, List.sum_cons, List.sum_nil, xnzn, xpn0, xpn1, xpnb, xpnn, i10, i00, true_imp_iff, false_imp_iff, not_true_eq_false, not_false_eq_true, true_and, and_true, implies_true, xnz0, xnz1, xnzb, xfz0, xfz1, xfzb, Option.isSome_some, if_true, if_false, xbF, xbT, and_false, false_and, Nat.zero_le, Nat.reduceEqDiff, Nat.reduceLeDiff, Nat.reduceAdd, Nat.reduceSub, xiT, xiF]
    exact g
  · have g := h2 e
    refine ⟨358, rfl, fun q => ?_⟩
    simp (disch := omega) only [e138_358, e138_358n, e138_360, e138_362, xKv, xK0, xKx, xKHv, xKH0, xk_none, xk_i, xk_f, xk_l, xk_r, xk_n, xc_i, xc_f, xc_l, xc_d, xc_r, xc_n, xo_some, List.map_cons, List.map_nil, List.sum_cons, List.sum_nil, xnzn, xpn0, xpn1, xpnb, xpnn, i10, i00, true_imp_iff, false_imp_iff, not_true_eq_false, not_false_eq_true, true_and, and_true, implies_true, xnz0, xnz1, xnzb, xfz0, xfz1, xfzb, Option.isSome_some, if_true, if_false, xbF, xbT, and_false, false_and, Nat.zero_le, Nat.reduceEqDiff, Nat.reduceLeDiff, Nat.reduceAdd, Nat.reduceSub, xiT, xiF]
    exact g
theorem a_ofCell  (W : Wd κ x h0 σ i ah) {a b c d e : Int32} (hR : t_ofCell a b = 0 → ∀ ah', Wd κ x h0 σ i ah' → R (.inl (some (.int ((v_ofCell σ a b))))) ah') (h1 : t_ofCell a b = 1 → R (.inl (some (.int (-1691000)))) ah) (h2 : t_ofCell a b = 2 → R (.inl (some (.int (-1692000)))) ah) : xm κ 138 [.ref x, .int 18, .int a, .int b, .int c, .int d, .int e] ah R := by
  rw [en138]
  simp (disch := omega) only [e138_0, e138_1, e138_13, e138_14, e138_15, e138_27, e138_28, e138_29, e138_41, e138_42, e138_43, e138_63, e138_64, e138_65, e138_83, e138_84, e138_85, e138_99, e138_100, e138_102, e138_114, e138_115, e138_117, e138_128, e138_129, e138_131, e138_147, e138_148, e138_150, e138_162, e138_163, e138_165, e138_181, e138_182, e138_184, e138_195, e138_196, e138_198, e138_210, e138_211, e138_213, e138_229, e138_230, e138_232, e138_244, e138_245, e138_247, e138_260, e138_261, e138_263, e138_277, e138_278, e138_280, e138_292, e138_293, e138_295, e138_298, e138_298n, e138_299, e138_300, xKv, xK0, xKx, xKHv, xKH0, xk_none, xk_i, xk_f, xk_l, xk_r, xk_n, xc_i, xc_f, xc_l, xc_d, xc_r, xc_n, xo_some, List.map_cons, List.map_nil, List.sum_cons, List.sum_nil, xnzn, xpn0, xpn1, xpnb, xpnn, i10, i00, true_imp_iff, false_imp_iff, not_true_eq_false, not_false_eq_true, true_and, and_true, implies_true, xnz0, xnz1, xnzb, xfz0, xfz1, xfzb, Option.isSome_some, if_true, if_false, xbF, xbT, and_false, false_and, Nat.zero_le, Nat.reduceEqDiff, Nat.reduceLeDiff, Nat.reduceAdd, Nat.reduceSub, xiT, xiF, eq_self, kq18_0, kq18_1, kq18_2, kq18_3, kq18_4, kq18_5, kq18_6, kq18_7, kq18_8, kq18_9, kq18_10, kq18_11, kq18_12, kq18_13, kq18_14, kq18_15, kq18_16, kq18_17]
  rw [e138_301]
  refine ⟨⟨by decide, W.is, by decide, by decide⟩, w_ofCell W (fun e ah' W' => ?_) (fun e => ?_) (fun e => ?_)⟩
  · have g := hR e ah' W'
    show xW _ _ _ _
    simp (disch := omega) only [e138_304, e138_352, xKv, xK0, xKx, xKHv, xKH0, xk_none, xk_i, xk_f, xk_l, xk_r, xk_n, xc_i, xc_f, xc_l, xc_d, xc_r, xc_n, xo_some, List.map_cons, List.map_nil, List.sum_cons, List.sum_nil, xnzn, xpn0, xpn1, xpnb, xpnn, i10, i00, true_imp_iff, false_imp_iff, not_true_eq_false, not_false_eq_true, true_and, and_true, implies_true, xnz0, xnz1, xnzb, xfz0, xfz1, xfzb, Option.isSome_some, if_true, if_false, xbF, xbT, and_false, false_and, Nat.zero_le, Nat.reduceEqDiff, Nat.reduceLeDiff, Nat.reduceAdd, Nat.reduceSub, xiT, xiF]
    exact g
  · have g := h1 e
    refine ⟨353, rfl, fun q => ?_⟩
    simp (disch := omega) only [e138_353, e138_353n, e138_355, e138_357, xKv, xK0, xKx, xKHv, xKH0, xk_none, xk_i, xk_f, xk_l, xk_r, xk_n, xc_i, xc_f, xc_l, xc_d, xc_r, xc_n, xo_some, List.map_cons, List.map_nil, List.sum_cons, List.sum_nil, xnzn, xpn0, xpn1, xpnb, xpnn, i10, i00, true_imp_iff, false_imp_iff, not_true_eq_false, not_false_eq_true, true_and, and_true, implies_true, xnz0, xnz1, xnzb, xfz0, xfz1, xfzb, Option.isSome_some, if_true, if_false, xbF, xbT, and_false, false_and, Nat.zero_le, Nat.reduceEqDiff, Nat.reduceLeDiff, Nat.reduceAdd, Nat.reduceSub, xiT, xiF]
    exact g
  · have g := h2 e
    refine ⟨358, rfl, fun q => ?_⟩
    simp (disch := omega) only [e138_358, e138_358n, e138_360, e138_362, xKv, xK0, xKx, xKHv, xKH0, xk_none, xk_i, xk_f, xk_l, xk_r, xk_n, xc_i, xc_f, xc_l, xc_d, xc_r, xc_n, xo_some, List.map_cons, List.map_nil, List.sum_cons, List.sum_nil, xnzn, xpn0, xpn1, xpnb, xpnn, i10, i00, true_imp_iff, false_imp_iff, not_true_eq_false, not_false_eq_true, true_and, and_true, implies_true, xnz0, xnz1, xnzb, xfz0, xfz1, xfzb, Option.isSome_some, if_true, if_false, xbF, xbT, and_false, false_and, Nat.zero_le, Nat.reduceEqDiff, Nat.reduceLeDiff, Nat.reduceAdd, Nat.reduceSub, xiT, xiF]
    exact g
theorem a_over  (W : Wd κ x h0 σ i ah) {a b c d e : Int32} (hR : t_over σ a = 0 → ∀ ah', Wd κ x h0 σ i ah' → R (.inl (some (.int ((v_over σ a))))) ah') (h1 : t_over σ a = 1 → R (.inl (some (.int (-1691000)))) ah) : xm κ 138 [.ref x, .int 19, .int a, .int b, .int c, .int d, .int e] ah R := by
  rw [en138]
  simp (disch := omega) only [e138_0, e138_1, e138_13, e138_14, e138_15, e138_27, e138_28, e138_29, e138_41, e138_42, e138_43, e138_63, e138_64, e138_65, e138_83, e138_84, e138_85, e138_99, e138_100, e138_102, e138_114, e138_115, e138_117, e138_128, e138_129, e138_131, e138_147, e138_148, e138_150, e138_162, e138_163, e138_165, e138_181, e138_182, e138_184, e138_195, e138_196, e138_198, e138_210, e138_211, e138_213, e138_229, e138_230, e138_232, e138_244, e138_245, e138_247, e138_260, e138_261, e138_263, e138_277, e138_278, e138_280, e138_292, e138_293, e138_295, e138_307, e138_308, e138_310, e138_313, e138_313n, e138_314, xKv, xK0, xKx, xKHv, xKH0, xk_none, xk_i, xk_f, xk_l, xk_r, xk_n, xc_i, xc_f, xc_l, xc_d, xc_r, xc_n, xo_some, List.map_cons, List.map_nil, List.sum_cons, List.sum_nil, xnzn, xpn0, xpn1, xpnb, xpnn, i10, i00, true_imp_iff, false_imp_iff, not_true_eq_false, not_false_eq_true, true_and, and_true, implies_true, xnz0, xnz1, xnzb, xfz0, xfz1, xfzb, Option.isSome_some, if_true, if_false, xbF, xbT, and_false, false_and, Nat.zero_le, Nat.reduceEqDiff, Nat.reduceLeDiff, Nat.reduceAdd, Nat.reduceSub, xiT, xiF, eq_self, kq19_0, kq19_1, kq19_2, kq19_3, kq19_4, kq19_5, kq19_6, kq19_7, kq19_8, kq19_9, kq19_10, kq19_11, kq19_12, kq19_13, kq19_14, kq19_15, kq19_16, kq19_17, kq19_18]
  rw [e138_315]
  refine ⟨⟨by decide, W.is, by decide, by decide⟩, w_over W (fun e ah' W' => ?_) (fun e => ?_)⟩
  · have g := hR e ah' W'
    show xW _ _ _ _
    simp (disch := omega) only [e138_318, e138_352, xKv, xK0, xKx, xKHv, xKH0, xk_none, xk_i, xk_f, xk_l, xk_r, xk_n, xc_i, xc_f, xc_l, xc_d, xc_r, xc_n, xo_some, List.map_cons, List.map_nil, List.sum_cons, List.sum_nil, xnzn, xpn0, xpn1, xpnb, xpnn, i10, i00, true_imp_iff, false_imp_iff, not_true_eq_false, not_false_eq_true, true_and, and_true, implies_true, xnz0, xnz1, xnzb, xfz0, xfz1, xfzb, Option.isSome_some, if_true, if_false, xbF, xbT, and_false, false_and, Nat.zero_le, Nat.reduceEqDiff, Nat.reduceLeDiff, Nat.reduceAdd, Nat.reduceSub, xiT, xiF]
    exact g
  · have g := h1 e
    refine ⟨353, rfl, fun q => ?_⟩
    simp (disch := omega) only [e138_353, e138_353n, e138_355, e138_357, xKv, xK0, xKx, xKHv, xKH0, xk_none, xk_i, xk_f, xk_l, xk_r, xk_n, xc_i, xc_f, xc_l, xc_d, xc_r, xc_n, xo_some, List.map_cons, List.map_nil, List.sum_cons, List.sum_nil, xnzn, xpn0, xpn1, xpnb, xpnn, i10, i00, true_imp_iff, false_imp_iff, not_true_eq_false, not_false_eq_true, true_and, and_true, implies_true, xnz0, xnz1, xnzb, xfz0, xfz1, xfzb, Option.isSome_some, if_true, if_false, xbF, xbT, and_false, false_and, Nat.zero_le, Nat.reduceEqDiff, Nat.reduceLeDiff, Nat.reduceAdd, Nat.reduceSub, xiT, xiF]
    exact g
theorem a_bill  (W : Wd κ x h0 σ i ah) {a b c d e : Int32} (hR : t_bill σ a b c = 0 → ∀ ah', Wd κ x h0 σ i ah' → R (.inl (some (.int ((v_bill σ a b c))))) ah') (h1 : t_bill σ a b c = 1 → R (.inl (some (.int (-1691000)))) ah) (h2 : t_bill σ a b c = 2 → R (.inl (some (.int (-1692000)))) ah) : xm κ 138 [.ref x, .int 20, .int a, .int b, .int c, .int d, .int e] ah R := by
  rw [en138]
  simp (disch := omega) only [e138_0, e138_1, e138_13, e138_14, e138_15, e138_27, e138_28, e138_29, e138_41, e138_42, e138_43, e138_63, e138_64, e138_65, e138_83, e138_84, e138_85, e138_99, e138_100, e138_102, e138_114, e138_115, e138_117, e138_128, e138_129, e138_131, e138_147, e138_148, e138_150, e138_162, e138_163, e138_165, e138_181, e138_182, e138_184, e138_195, e138_196, e138_198, e138_210, e138_211, e138_213, e138_229, e138_230, e138_232, e138_244, e138_245, e138_247, e138_260, e138_261, e138_263, e138_277, e138_278, e138_280, e138_292, e138_293, e138_295, e138_307, e138_308, e138_310, e138_321, e138_322, e138_324, e138_327, e138_327n, e138_328, e138_329, e138_330, xKv, xK0, xKx, xKHv, xKH0, xk_none, xk_i, xk_f, xk_l, xk_r, xk_n, xc_i, xc_f, xc_l, xc_d, xc_r, xc_n, xo_some, List.map_cons, List.map_nil, List.sum_cons, List.sum_nil, xnzn, xpn0, xpn1, xpnb, xpnn, i10, i00, true_imp_iff, false_imp_iff, not_true_eq_false, not_false_eq_true, true_and, and_true, implies_true, xnz0, xnz1, xnzb, xfz0, xfz1, xfzb, Option.isSome_some, if_true, if_false, xbF, xbT, and_false, false_and, Nat.zero_le, Nat.reduceEqDiff, Nat.reduceLeDiff, Nat.reduceAdd, Nat.reduceSub, xiT, xiF, eq_self, kq20_0, kq20_1, kq20_2, kq20_3, kq20_4, kq20_5, kq20_6, kq20_7, kq20_8, kq20_9, kq20_10, kq20_11, kq20_12, kq20_13, kq20_14, kq20_15, kq20_16, kq20_17, kq20_18, kq20_19]
  rw [e138_332]
  refine ⟨⟨by decide, W.is, by decide, by decide⟩, w_bill W (fun e ah' W' => ?_) (fun e => ?_) (fun e => ?_)⟩
  · have g := hR e ah' W'
    show xW _ _ _ _
    simp (disch := omega) only [e138_335, e138_352, xKv, xK0, xKx, xKHv, xKH0, xk_none, xk_i, xk_f, xk_l, xk_r, xk_n, xc_i, xc_f, xc_l, xc_d, xc_r, xc_n, xo_some, List.map_cons, List.map_nil, List.sum_cons, List.sum_nil, xnzn, xpn0, xpn1, xpnb, xpnn, i10, i00, true_imp_iff, false_imp_iff, not_true_eq_false, not_false_eq_true, true_and, and_true, implies_true, xnz0, xnz1, xnzb, xfz0, xfz1, xfzb, Option.isSome_some, if_true, if_false, xbF, xbT, and_false, false_and, Nat.zero_le, Nat.reduceEqDiff, Nat.reduceLeDiff, Nat.reduceAdd, Nat.reduceSub, xiT, xiF]
    exact g
  · have g := h1 e
    refine ⟨353, rfl, fun q => ?_⟩
    simp (disch := omega) only [e138_353, e138_353n, e138_355, e138_357, xKv, xK0, xKx, xKHv, xKH0, xk_none, xk_i, xk_f, xk_l, xk_r, xk_n, xc_i, xc_f, xc_l, xc_d, xc_r, xc_n, xo_some, List.map_cons, List.map_nil, List.sum_cons, List.sum_nil, xnzn, xpn0, xpn1, xpnb, xpnn, i10, i00, true_imp_iff, false_imp_iff, not_true_eq_false, not_false_eq_true, true_and, and_true, implies_true, xnz0, xnz1, xnzb, xfz0, xfz1, xfzb, Option.isSome_some, if_true, if_false, xbF, xbT, and_false, false_and, Nat.zero_le, Nat.reduceEqDiff, Nat.reduceLeDiff, Nat.reduceAdd, Nat.reduceSub, xiT, xiF]
    exact g
  · have g := h2 e
    refine ⟨358, rfl, fun q => ?_⟩
    simp (disch := omega) only [e138_358, e138_358n, e138_360, e138_362, xKv, xK0, xKx, xKHv, xKH0, xk_none, xk_i, xk_f, xk_l, xk_r, xk_n, xc_i, xc_f, xc_l, xc_d, xc_r, xc_n, xo_some, List.map_cons, List.map_nil, List.sum_cons, List.sum_nil, xnzn, xpn0, xpn1, xpnb, xpnn, i10, i00, true_imp_iff, false_imp_iff, not_true_eq_false, not_false_eq_true, true_and, and_true, implies_true, xnz0, xnz1, xnzb, xfz0, xfz1, xfzb, Option.isSome_some, if_true, if_false, xbF, xbT, and_false, false_and, Nat.zero_le, Nat.reduceEqDiff, Nat.reduceLeDiff, Nat.reduceAdd, Nat.reduceSub, xiT, xiF]
    exact g
theorem a_tells  (W : Wd κ x h0 σ i ah) {a b c d e : Int32} (hR : t_tells a b c d e 50 = 0 → ∀ ah', Wd κ x h0 σ i ah' → R (.inl (some (.int ((v_tells a b c d e 50))))) ah') (h1 : t_tells a b c d e 50 = 1 → R (.inl (some (.int (-1692000)))) ah) : xm κ 138 [.ref x, .int 21, .int a, .int b, .int c, .int d, .int e] ah R := by
  rw [en138]
  simp (disch := omega) only [e138_0, e138_1, e138_13, e138_14, e138_15, e138_27, e138_28, e138_29, e138_41, e138_42, e138_43, e138_63, e138_64, e138_65, e138_83, e138_84, e138_85, e138_99, e138_100, e138_102, e138_114, e138_115, e138_117, e138_128, e138_129, e138_131, e138_147, e138_148, e138_150, e138_162, e138_163, e138_165, e138_181, e138_182, e138_184, e138_195, e138_196, e138_198, e138_210, e138_211, e138_213, e138_229, e138_230, e138_232, e138_244, e138_245, e138_247, e138_260, e138_261, e138_263, e138_277, e138_278, e138_280, e138_292, e138_293, e138_295, e138_307, e138_308, e138_310, e138_321, e138_322, e138_324, e138_338, e138_338n, e138_339, e138_340, e138_341, e138_343, e138_345, e138_347, xKv, xK0, xKx, xKHv, xKH0, xk_none, xk_i, xk_f, xk_l, xk_r, xk_n, xc_i, xc_f, xc_l, xc_d, xc_r, xc_n, xo_some, List.map_cons, List.map_nil, List.sum_cons, List.sum_nil, xnzn, xpn0, xpn1, xpnb, xpnn, i10, i00, true_imp_iff, false_imp_iff, not_true_eq_false, not_false_eq_true, true_and, and_true, implies_true, xnz0, xnz1, xnzb, xfz0, xfz1, xfzb, Option.isSome_some, if_true, if_false, xbF, xbT, and_false, false_and, Nat.zero_le, Nat.reduceEqDiff, Nat.reduceLeDiff, Nat.reduceAdd, Nat.reduceSub, xiT, xiF, eq_self, kq21_0, kq21_1, kq21_2, kq21_3, kq21_4, kq21_5, kq21_6, kq21_7, kq21_8, kq21_9, kq21_10, kq21_11, kq21_12, kq21_13, kq21_14, kq21_15, kq21_16, kq21_17, kq21_18, kq21_19, kq21_20]
  rw [e138_349]
  refine ⟨⟨by decide, W.is, by decide, by decide⟩, w_tells W (fun e ah' W' => ?_) (fun e => ?_)⟩
  · have g := hR e ah' W'
    show xW _ _ _ _
    simp (disch := omega) only [e138_352, xKv, xK0, xKx, xKHv, xKH0, xk_none, xk_i, xk_f, xk_l, xk_r, xk_n, xc_i, xc_f, xc_l, xc_d, xc_r, xc_n, xo_some, List.map_cons, List.map_nil, List.sum_cons, List.sum_nil, xnzn, xpn0, xpn1, xpnb, xpnn, i10, i00, true_imp_iff, false_imp_iff, not_true_eq_false, not_false_eq_true, true_and, and_true, implies_true, xnz0, xnz1, xnzb, xfz0, xfz1, xfzb, Option.isSome_some, if_true, if_false, xbF, xbT, and_false, false_and, Nat.zero_le, Nat.reduceEqDiff, Nat.reduceLeDiff, Nat.reduceAdd, Nat.reduceSub, xiT, xiF]
    exact g
  · have g := h1 e
    refine ⟨358, rfl, fun q => ?_⟩
    simp (disch := omega) only [e138_358, e138_358n, e138_360, e138_362, xKv, xK0, xKx, xKHv, xKH0, xk_none, xk_i, xk_f, xk_l, xk_r, xk_n, xc_i, xc_f, xc_l, xc_d, xc_r, xc_n, xo_some, List.map_cons, List.map_nil, List.sum_cons, List.sum_nil, xnzn, xpn0, xpn1, xpnb, xpnn, i10, i00, true_imp_iff, false_imp_iff, not_true_eq_false, not_false_eq_true, true_and, and_true, implies_true, xnz0, xnz1, xnzb, xfz0, xfz1, xfzb, Option.isSome_some, if_true, if_false, xbF, xbT, and_false, false_and, Nat.zero_le, Nat.reduceEqDiff, Nat.reduceLeDiff, Nat.reduceAdd, Nat.reduceSub, xiT, xiF]
    exact g
theorem p_patch (W : Wd κ x h0 σ i ah) {p s : Int32} {y : Int64} (hR : t_patch σ y = 0 → ∀ ah', Wd κ x h0 (s_patch σ y) i ah' → R (.inl (some (.int ((v_patch σ y))))) ah') (h1 : t_patch σ y = 1 → R (.inl (some (.int (-1692000)))) ah) (h2 : t_patch σ y = 2 → R (.inl (some (.int (-1693000)))) ah) : xm κ 139 [.ref x, .int p, .int (-9), .long y, .int s] ah R := by
  rw [en139]
  simp (disch := omega) only [e139_0, e139_1, e139_3, e139_6, e139_6n, e139_7, xKv, xK0, xKx, xKHv, xKH0, xk_none, xk_i, xk_f, xk_l, xk_r, xk_n, xc_i, xc_f, xc_l, xc_d, xc_r, xc_n, xo_some, List.map_cons, List.map_nil, List.sum_cons, List.sum_nil, xnzn, xpn0, xpn1, xpnb, xpnn, i10, i00, true_imp_iff, false_imp_iff, not_true_eq_false, not_false_eq_true, true_and, and_true, implies_true, xnz0, xnz1, xnzb, xfz0, xfz1, xfzb, Option.isSome_some, if_true, if_false, xbF, xbT, and_false, false_and, Nat.zero_le, Nat.reduceEqDiff, Nat.reduceLeDiff, Nat.reduceAdd, Nat.reduceSub, xiT, xiF, eq_self]
  rw [e139_8]
  refine ⟨⟨by decide, W.is, by decide, by decide⟩, w_patch W (fun e ah' W' => ?_) (fun e => ?_) (fun e => ?_)⟩
  · have g9 := hR e ah' W'
    show xW _ _ _ _
    simp (disch := omega) only [e139_11, e139_23, xKv, xK0, xKx, xKHv, xKH0, xk_none, xk_i, xk_f, xk_l, xk_r, xk_n, xc_i, xc_f, xc_l, xc_d, xc_r, xc_n, xo_some, List.map_cons, List.map_nil, List.sum_cons, List.sum_nil, xnzn, xpn0, xpn1, xpnb, xpnn, i10, i00, true_imp_iff, false_imp_iff, not_true_eq_false, not_false_eq_true, true_and, and_true, implies_true, xnz0, xnz1, xnzb, xfz0, xfz1, xfzb, Option.isSome_some, if_true, if_false, xbF, xbT, and_false, false_and, Nat.zero_le, Nat.reduceEqDiff, Nat.reduceLeDiff, Nat.reduceAdd, Nat.reduceSub, xiT, xiF]
    exact g9
  · have g9 := h1 e
    refine ⟨29, rfl, fun q => ?_⟩
    simp (disch := omega) only [e139_29, e139_29n, e139_31, e139_33, xKv, xK0, xKx, xKHv, xKH0, xk_none, xk_i, xk_f, xk_l, xk_r, xk_n, xc_i, xc_f, xc_l, xc_d, xc_r, xc_n, xo_some, List.map_cons, List.map_nil, List.sum_cons, List.sum_nil, xnzn, xpn0, xpn1, xpnb, xpnn, i10, i00, true_imp_iff, false_imp_iff, not_true_eq_false, not_false_eq_true, true_and, and_true, implies_true, xnz0, xnz1, xnzb, xfz0, xfz1, xfzb, Option.isSome_some, if_true, if_false, xbF, xbT, and_false, false_and, Nat.zero_le, Nat.reduceEqDiff, Nat.reduceLeDiff, Nat.reduceAdd, Nat.reduceSub, xiT, xiF]
    exact g9
  · have g9 := h2 e
    refine ⟨34, rfl, fun q => ?_⟩
    simp (disch := omega) only [e139_34, e139_34n, e139_36, e139_38, xKv, xK0, xKx, xKHv, xKH0, xk_none, xk_i, xk_f, xk_l, xk_r, xk_n, xc_i, xc_f, xc_l, xc_d, xc_r, xc_n, xo_some, List.map_cons, List.map_nil, List.sum_cons, List.sum_nil, xnzn, xpn0, xpn1, xpnb, xpnn, i10, i00, true_imp_iff, false_imp_iff, not_true_eq_false, not_false_eq_true, true_and, and_true, implies_true, xnz0, xnz1, xnzb, xfz0, xfz1, xfzb, Option.isSome_some, if_true, if_false, xbF, xbT, and_false, false_and, Nat.zero_le, Nat.reduceEqDiff, Nat.reduceLeDiff, Nat.reduceAdd, Nat.reduceSub, xiT, xiF]
    exact g9
theorem p_paint (W : Wd κ x h0 σ i ah) {p g s : Int32} {y : Int64} {sc : Prop} (hg : ¬ g = -9) (hR : t_paint σ p g sc = 0 → ∀ ah', Wd κ x h0 (s_paint σ p g y sc) i ah' → R (.inl (some (.int ((v_paint σ p g y sc))))) ah') (h1 : t_paint σ p g sc = 1 → R (.inl (some (.int (-1691000)))) ah) (h2 : t_paint σ p g sc = 2 → R (.inl (some (.int (-1693000)))) ah) : xm κ 139 [.ref x, .int p, .int g, .long y, .int (xb sc)] ah R := by
  rw [en139]
  simp (disch := omega) only [e139_0, e139_1, e139_3, e139_14, e139_14n, e139_15, e139_16, e139_17, e139_18, xKv, xK0, xKx, xKHv, xKH0, xk_none, xk_i, xk_f, xk_l, xk_r, xk_n, xc_i, xc_f, xc_l, xc_d, xc_r, xc_n, xo_some, List.map_cons, List.map_nil, List.sum_cons, List.sum_nil, xnzn, xpn0, xpn1, xpnb, xpnn, i10, i00, true_imp_iff, false_imp_iff, not_true_eq_false, not_false_eq_true, true_and, and_true, implies_true, xnz0, xnz1, xnzb, xfz0, xfz1, xfzb, Option.isSome_some, if_true, if_false, xbF, xbT, and_false, false_and, Nat.zero_le, Nat.reduceEqDiff, Nat.reduceLeDiff, Nat.reduceAdd, Nat.reduceSub, xiT, xiF, eq_self, hg]
  rw [e139_20]
  refine ⟨⟨by decide, W.is, by decide, by decide⟩, w_paint W (fun e ah' W' => ?_) (fun e => ?_) (fun e => ?_)⟩
  · have g9 := hR e ah' W'
    show xW _ _ _ _
    simp (disch := omega) only [e139_11, e139_23, xKv, xK0, xKx, xKHv, xKH0, xk_none, xk_i, xk_f, xk_l, xk_r, xk_n, xc_i, xc_f, xc_l, xc_d, xc_r, xc_n, xo_some, List.map_cons, List.map_nil, List.sum_cons, List.sum_nil, xnzn, xpn0, xpn1, xpnb, xpnn, i10, i00, true_imp_iff, false_imp_iff, not_true_eq_false, not_false_eq_true, true_and, and_true, implies_true, xnz0, xnz1, xnzb, xfz0, xfz1, xfzb, Option.isSome_some, if_true, if_false, xbF, xbT, and_false, false_and, Nat.zero_le, Nat.reduceEqDiff, Nat.reduceLeDiff, Nat.reduceAdd, Nat.reduceSub, xiT, xiF]
    exact g9
  · have g9 := h1 e
    refine ⟨24, rfl, fun q => ?_⟩
    simp (disch := omega) only [e139_24, e139_24n, e139_26, e139_28, xKv, xK0, xKx, xKHv, xKH0, xk_none, xk_i, xk_f, xk_l, xk_r, xk_n, xc_i, xc_f, xc_l, xc_d, xc_r, xc_n, xo_some, List.map_cons, List.map_nil, List.sum_cons, List.sum_nil, xnzn, xpn0, xpn1, xpnb, xpnn, i10, i00, true_imp_iff, false_imp_iff, not_true_eq_false, not_false_eq_true, true_and, and_true, implies_true, xnz0, xnz1, xnzb, xfz0, xfz1, xfzb, Option.isSome_some, if_true, if_false, xbF, xbT, and_false, false_and, Nat.zero_le, Nat.reduceEqDiff, Nat.reduceLeDiff, Nat.reduceAdd, Nat.reduceSub, xiT, xiF]
    exact g9
  · have g9 := h2 e
    refine ⟨34, rfl, fun q => ?_⟩
    simp (disch := omega) only [e139_34, e139_34n, e139_36, e139_38, xKv, xK0, xKx, xKHv, xKH0, xk_none, xk_i, xk_f, xk_l, xk_r, xk_n, xc_i, xc_f, xc_l, xc_d, xc_r, xc_n, xo_some, List.map_cons, List.map_nil, List.sum_cons, List.sum_nil, xnzn, xpn0, xpn1, xpnb, xpnn, i10, i00, true_imp_iff, false_imp_iff, not_true_eq_false, not_false_eq_true, true_and, and_true, implies_true, xnz0, xnz1, xnzb, xfz0, xfz1, xfzb, Option.isSome_some, if_true, if_false, xbF, xbT, and_false, false_and, Nat.zero_le, Nat.reduceEqDiff, Nat.reduceLeDiff, Nat.reduceAdd, Nat.reduceSub, xiT, xiF]
    exact g9
end
