/-! the JDK's bitCount, as it is written -/
abbrev ush (x : Int32) (k : Int32) : Int32 := (x.toUInt32 >>> (k.toUInt32 &&& Int32.toUInt32 31)).toInt32
abbrev ushL (x : Int64) (k : Int32) : Int64 := (x.toUInt64 >>> (k.toInt64.toUInt64 &&& Int64.toUInt64 63)).toInt64
def bc1 (x : Int32) : Int32 := x - (ush x 1 &&& 1431655765)
def bc2 (x : Int32) : Int32 := (x &&& 858993459) + (ush x 2 &&& 858993459)
def bc3 (x : Int32) : Int32 := (x + ush x 4) &&& 252645135
def bc4 (x : Int32) : Int32 := x + ush x 8
def bc5 (x : Int32) : Int32 := x + ush x 16
def bcI (x : Int32) : Int32 := bc5 (bc4 (bc3 (bc2 (bc1 x)))) &&& 63
theorem sp_bitCount (d : Nat) (h : Hp) (x : Int32) : Mx mJ6_bitCount_0f7a4 d [.int x] h (some (.int (bcI x))) h := by
  refine Mx_of [_] (by decide +kernel) rfl rfl ?_
  refine Rx_iload_n dJ6_bitCount_0f7a4_0 rfl ?_
  refine Rx_iload_n dJ6_bitCount_0f7a4_1 rfl ?_
  refine Rx_iconst (1) dJ6_bitCount_0f7a4_2 (by decide) ?_
  refine Rx_iushr dJ6_bitCount_0f7a4_3 ?_
  refine Rx_ldcw dJ6_bitCount_0f7a4_4 kcJ6_265 ?_
  refine Rx_iand dJ6_bitCount_0f7a4_7 ?_
  refine Rx_isub dJ6_bitCount_0f7a4_8 ?_
  refine Rx_istore_n [_] dJ6_bitCount_0f7a4_9 rfl rfl rfl ?_
  show Rx _ _ _ [.int (bc1 x)] [] _ _ _
  refine Rx_iload_n dJ6_bitCount_0f7a4_10 rfl ?_
  refine Rx_ldcw dJ6_bitCount_0f7a4_11 kcJ6_266 ?_
  refine Rx_iand dJ6_bitCount_0f7a4_14 ?_
  refine Rx_iload_n dJ6_bitCount_0f7a4_15 rfl ?_
  refine Rx_iconst (2) dJ6_bitCount_0f7a4_16 (by decide) ?_
  refine Rx_iushr dJ6_bitCount_0f7a4_17 ?_
  refine Rx_ldcw dJ6_bitCount_0f7a4_18 kcJ6_266 ?_
  refine Rx_iand dJ6_bitCount_0f7a4_21 ?_
  refine Rx_iadd dJ6_bitCount_0f7a4_22 ?_
  refine Rx_istore_n [_] dJ6_bitCount_0f7a4_23 rfl rfl rfl ?_
  show Rx _ _ _ [.int (bc2 (bc1 x))] [] _ _ _
  refine Rx_iload_n dJ6_bitCount_0f7a4_24 rfl ?_
  refine Rx_iload_n dJ6_bitCount_0f7a4_25 rfl ?_
  refine Rx_iconst (4) dJ6_bitCount_0f7a4_26 (by decide) ?_
  refine Rx_iushr dJ6_bitCount_0f7a4_27 ?_
  refine Rx_iadd dJ6_bitCount_0f7a4_28 ?_
  refine Rx_ldcw dJ6_bitCount_0f7a4_29 kcJ6_267 ?_
  refine Rx_iand dJ6_bitCount_0f7a4_32 ?_
  refine Rx_istore_n [_] dJ6_bitCount_0f7a4_33 rfl rfl rfl ?_
  show Rx _ _ _ [.int (bc3 (bc2 (bc1 x)))] [] _ _ _
  refine Rx_iload_n dJ6_bitCount_0f7a4_34 rfl ?_
  refine Rx_iload_n dJ6_bitCount_0f7a4_35 rfl ?_
  refine Rx_bipush (8) dJ6_bitCount_0f7a4_36 (by decide) ?_
  refine Rx_iushr dJ6_bitCount_0f7a4_38 ?_
  refine Rx_iadd dJ6_bitCount_0f7a4_39 ?_
  refine Rx_istore_n [_] dJ6_bitCount_0f7a4_40 rfl rfl rfl ?_
  show Rx _ _ _ [.int (bc4 (bc3 (bc2 (bc1 x))))] [] _ _ _
  refine Rx_iload_n dJ6_bitCount_0f7a4_41 rfl ?_
  refine Rx_iload_n dJ6_bitCount_0f7a4_42 rfl ?_
  refine Rx_bipush (16) dJ6_bitCount_0f7a4_43 (by decide) ?_
  refine Rx_iushr dJ6_bitCount_0f7a4_45 ?_
  refine Rx_iadd dJ6_bitCount_0f7a4_46 ?_
  refine Rx_istore_n [_] dJ6_bitCount_0f7a4_47 rfl rfl rfl ?_
  show Rx _ _ _ [.int (bc5 (bc4 (bc3 (bc2 (bc1 x)))))] [] _ _ _
  refine Rx_iload_n dJ6_bitCount_0f7a4_48 rfl ?_
  refine Rx_bipush (63) dJ6_bitCount_0f7a4_49 (by decide) ?_
  refine Rx_iand dJ6_bitCount_0f7a4_51 ?_
  exact Rx_iret dJ6_bitCount_0f7a4_52 rfl
def lc1 (x : Int64) : Int64 := x - (ushL x 1 &&& 6148914691236517205)
def lc2 (x : Int64) : Int64 := (x &&& 3689348814741910323) + (ushL x 2 &&& 3689348814741910323)
def lc3 (x : Int64) : Int64 := (x + ushL x 4) &&& 1085102592571150095
def lc4 (x : Int64) : Int64 := x + ushL x 8
def lc5 (x : Int64) : Int64 := x + ushL x 16
def lc6 (x : Int64) : Int64 := x + ushL x 32
def bcL (x : Int64) : Int32 := (lc6 (lc5 (lc4 (lc3 (lc2 (lc1 x)))))).toInt32 &&& 127
theorem sp_bitCountL (d : Nat) (h : Hp) (x : Int64) : Mx mJ13_bitCount_95d88 d [.long x] h (some (.int (bcL x))) h := by
  refine Mx_of [_, _] (by decide +kernel) rfl rfl ?_
  refine Rx_lload_n dJ13_bitCount_95d88_0 rfl ?_
  refine Rx_lload_n dJ13_bitCount_95d88_1 rfl ?_
  refine Rx_iconst (1) dJ13_bitCount_95d88_2 (by decide) ?_
  refine Rx_lushr dJ13_bitCount_95d88_3 ?_
  refine Rx_ldc2 dJ13_bitCount_95d88_4 kcJ13_314 ?_
  refine Rx_land dJ13_bitCount_95d88_7 ?_
  refine Rx_lsub dJ13_bitCount_95d88_8 ?_
  refine Rx_lstore_n [_, _] dJ13_bitCount_95d88_9 rfl rfl rfl ?_
  show Rx _ _ _ [.long (lc1 x), .retAddr 0] [] _ _ _
  refine Rx_lload_n dJ13_bitCount_95d88_10 rfl ?_
  refine Rx_ldc2 dJ13_bitCount_95d88_11 kcJ13_316 ?_
  refine Rx_land dJ13_bitCount_95d88_14 ?_
  refine Rx_lload_n dJ13_bitCount_95d88_15 rfl ?_
  refine Rx_iconst (2) dJ13_bitCount_95d88_16 (by decide) ?_
  refine Rx_lushr dJ13_bitCount_95d88_17 ?_
  refine Rx_ldc2 dJ13_bitCount_95d88_18 kcJ13_316 ?_
  refine Rx_land dJ13_bitCount_95d88_21 ?_
  refine Rx_ladd dJ13_bitCount_95d88_22 ?_
  refine Rx_lstore_n [_, _] dJ13_bitCount_95d88_23 rfl rfl rfl ?_
  show Rx _ _ _ [.long (lc2 (lc1 x)), .retAddr 0] [] _ _ _
  refine Rx_lload_n dJ13_bitCount_95d88_24 rfl ?_
  refine Rx_lload_n dJ13_bitCount_95d88_25 rfl ?_
  refine Rx_iconst (4) dJ13_bitCount_95d88_26 (by decide) ?_
  refine Rx_lushr dJ13_bitCount_95d88_27 ?_
  refine Rx_ladd dJ13_bitCount_95d88_28 ?_
  refine Rx_ldc2 dJ13_bitCount_95d88_29 kcJ13_318 ?_
  refine Rx_land dJ13_bitCount_95d88_32 ?_
  refine Rx_lstore_n [_, _] dJ13_bitCount_95d88_33 rfl rfl rfl ?_
  show Rx _ _ _ [.long (lc3 (lc2 (lc1 x))), .retAddr 0] [] _ _ _
  refine Rx_lload_n dJ13_bitCount_95d88_34 rfl ?_
  refine Rx_lload_n dJ13_bitCount_95d88_35 rfl ?_
  refine Rx_bipush (8) dJ13_bitCount_95d88_36 (by decide) ?_
  refine Rx_lushr dJ13_bitCount_95d88_38 ?_
  refine Rx_ladd dJ13_bitCount_95d88_39 ?_
  refine Rx_lstore_n [_, _] dJ13_bitCount_95d88_40 rfl rfl rfl ?_
  show Rx _ _ _ [.long (lc4 (lc3 (lc2 (lc1 x)))), .retAddr 0] [] _ _ _
  refine Rx_lload_n dJ13_bitCount_95d88_41 rfl ?_
  refine Rx_lload_n dJ13_bitCount_95d88_42 rfl ?_
  refine Rx_bipush (16) dJ13_bitCount_95d88_43 (by decide) ?_
  refine Rx_lushr dJ13_bitCount_95d88_45 ?_
  refine Rx_ladd dJ13_bitCount_95d88_46 ?_
  refine Rx_lstore_n [_, _] dJ13_bitCount_95d88_47 rfl rfl rfl ?_
  show Rx _ _ _ [.long (lc5 (lc4 (lc3 (lc2 (lc1 x))))), .retAddr 0] [] _ _ _
  refine Rx_lload_n dJ13_bitCount_95d88_48 rfl ?_
  refine Rx_lload_n dJ13_bitCount_95d88_49 rfl ?_
  refine Rx_bipush (32) dJ13_bitCount_95d88_50 (by decide) ?_
  refine Rx_lushr dJ13_bitCount_95d88_52 ?_
  refine Rx_ladd dJ13_bitCount_95d88_53 ?_
  refine Rx_lstore_n [_, _] dJ13_bitCount_95d88_54 rfl rfl rfl ?_
  show Rx _ _ _ [.long (lc6 (lc5 (lc4 (lc3 (lc2 (lc1 x)))))), .retAddr 0] [] _ _ _
  refine Rx_lload_n dJ13_bitCount_95d88_55 rfl ?_
  refine Rx_l2i dJ13_bitCount_95d88_56 ?_
  refine Rx_bipush (127) dJ13_bitCount_95d88_57 (by decide) ?_
  refine Rx_iand dJ13_bitCount_95d88_59 ?_
  exact Rx_iret dJ13_bitCount_95d88_60 rfl
/-! CnfCompiler.FormulaText: cells 21 and 22 -/
abbrev obT (n : Nat) : va_E := .inr (2, [.ref 22, .int (nI n)])
def TI (h : Hp) (n : Nat) (t : Nat → Int32) : Prop := h[21]? = some (obT n) ∧ h[22]? = some (aI 150 t) ∧ n ≤ 150
theorem sp_addByte (d : Nat) {h : Hp} {n : Nat} {t : Nat → Int32} (x : TI h n t) (hn : n < 150) (v : Int32) : Mx mX2_addByte d [.ref 21, .int v] h none ((h.set 22 (aI 150 (upd t n v))).set 21 (obT (n + 1))) := by
  obtain ⟨h1, h2, -⟩ := x
  refine Mx_of [_, _] (by decide +kernel) rfl rfl ?_
  refine Rx_aload_n dX2_addByte_0 rfl ?_
  refine Rx_get dX2_addByte_1 flX2_15 h1 rfl ?_
  refine Rx_sipush (150) dX2_addByte_4 (by decide) ?_
  refine Rx_icmp_ge_f 30 dX2_addByte_7 (by decide) (nI_ge hn (by decide)) ?_
  refine Rx_aload_n dX2_addByte_10 rfl ?_
  refine Rx_get dX2_addByte_11 flX2_9 h1 rfl ?_
  refine Rx_aload_n dX2_addByte_14 rfl ?_
  refine Rx_get dX2_addByte_15 flX2_15 h1 rfl ?_
  refine Rx_iload_n dX2_addByte_18 rfl ?_
  refine Rx_iast n dX2_addByte_19 h2 hn (by decide) rfl ?_
  have h11 := hNs (e' := aI 150 (upd t n v)) (by decide : (22 : Nat) ≠ 21) h1
  refine Rx_aload_n dX2_addByte_20 rfl ?_
  refine Rx_dup dX2_addByte_21 rfl ?_
  refine Rx_get dX2_addByte_22 flX2_15 h11 rfl ?_
  refine Rx_iconst (1) dX2_addByte_25 (by decide) ?_
  refine Rx_iadd dX2_addByte_26 ?_
  refine Rx_put [_, _] dX2_addByte_27 fpX2_15 h11 rfl (okv_i _) rfl ?_
  rw [nI_1]
  exact Rx_vret dX2_addByte_30 rfl
theorem sp_byteAt (d : Nat) {h : Hp} {n p : Nat} {t : Nat → Int32} (x : TI h n t) (hp : p < n) : Mx mX2_byteAt d [.ref 21, .int (nI p)] h (some (.int (t p))) h := by
  obtain ⟨h1, h2, h3⟩ := x
  refine Mx_of [_, _] (by decide +kernel) rfl rfl ?_
  refine Rx_iload_n dX2_byteAt_0 rfl ?_
  refine Rx_if_lt_f 21 dX2_byteAt_1 (by decide) (nI_pos (by omega)) ?_
  refine Rx_iload_n dX2_byteAt_4 rfl ?_
  refine Rx_aload_n dX2_byteAt_5 rfl ?_
  refine Rx_get dX2_byteAt_6 flX2_15 h1 rfl ?_
  refine Rx_icmp_ge_f 21 dX2_byteAt_9 (by decide) (nI_ge hp (by omega)) ?_
  refine Rx_aload_n dX2_byteAt_12 rfl ?_
  refine Rx_get dX2_byteAt_13 flX2_9 h1 rfl ?_
  refine Rx_iload_n dX2_byteAt_16 rfl ?_
  refine Rx_iald p dX2_byteAt_17 h2 (by omega) (by decide) rfl ?_
  refine Rx_goto 22 dX2_byteAt_18 (by decide) ?_
  exact Rx_iret dX2_byteAt_22 rfl
theorem sp_byteAt_e (d : Nat) {h : Hp} {n p : Nat} {t : Nat → Int32} (x : TI h n t) (hp : n ≤ p) (hp2 : p < 1000) : Mx mX2_byteAt d [.ref 21, .int (nI p)] h (some (.int (-1))) h := by
  obtain ⟨h1, h2, h3⟩ := x
  refine Mx_of [_, _] (by decide +kernel) rfl rfl ?_
  refine Rx_iload_n dX2_byteAt_0 rfl ?_
  refine Rx_if_lt_f 21 dX2_byteAt_1 (by decide) (nI_pos (by omega)) ?_
  refine Rx_iload_n dX2_byteAt_4 rfl ?_
  refine Rx_aload_n dX2_byteAt_5 rfl ?_
  refine Rx_get dX2_byteAt_6 flX2_15 h1 rfl ?_
  refine Rx_icmp_ge_t 21 dX2_byteAt_9 (by decide) (nI_le hp (by omega)) ?_
  refine Rx_iconst (-1) dX2_byteAt_21 (by decide) ?_
  exact Rx_iret dX2_byteAt_22 rfl
/-- there is a digit at p -/
def dig (n : Nat) (t : Nat → Int32) (p : Nat) : Prop := p < n ∧ 48 ≤ t p ∧ t p ≤ 57
theorem sp_hasDig_t (d : Nat) {h : Hp} {n p : Nat} {t : Nat → Int32} (x : TI h n t) (hp : dig n t p) : Mx mX2_hasDigitAt (d + 1) [.ref 21, .int (nI p)] h (some (.int 1)) h := by
  refine Mx_of [_, _, _] (by decide +kernel) rfl rfl ?_
  refine Rx_aload_n dX2_hasDigitAt_0 rfl ?_
  refine Rx_iload_n dX2_hasDigitAt_1 rfl ?_
  refine Rx_callV [_] dX2_hasDigitAt_2 clX2_19 rfl x.1 (sp_byteAt d x hp.1) rfl rfl rfl ?_
  refine Rx_istore_n [_, _, _] dX2_hasDigitAt_5 rfl rfl rfl ?_
  refine Rx_iload_n dX2_hasDigitAt_6 rfl ?_
  refine Rx_bipush (48) dX2_hasDigitAt_7 (by decide) ?_
  refine Rx_icmp_lt_f 22 dX2_hasDigitAt_9 (by decide) (Int32.not_lt.mpr hp.2.1) ?_
  refine Rx_iload_n dX2_hasDigitAt_12 rfl ?_
  refine Rx_bipush (57) dX2_hasDigitAt_13 (by decide) ?_
  refine Rx_icmp_gt_f 22 dX2_hasDigitAt_15 (by decide) (Int32.not_lt.mpr hp.2.2) ?_
  refine Rx_iconst (1) dX2_hasDigitAt_18 (by decide) ?_
  refine Rx_goto 23 dX2_hasDigitAt_19 (by decide) ?_
  exact Rx_zret dX2_hasDigitAt_23 rfl nz_1
theorem sp_hasDig_f (d : Nat) {h : Hp} {n p : Nat} {t : Nat → Int32} (x : TI h n t) (hp : ¬ dig n t p) (hp2 : p < 1000) : Mx mX2_hasDigitAt (d + 1) [.ref 21, .int (nI p)] h (some (.int 0)) h := by
  refine Mx_of [_, _, _] (by decide +kernel) rfl rfl ?_
  by_cases c : p < n
  · by_cases c2 : t p < 48
    · refine Rx_aload_n dX2_hasDigitAt_0 rfl ?_
      refine Rx_iload_n dX2_hasDigitAt_1 rfl ?_
      refine Rx_callV [_] dX2_hasDigitAt_2 clX2_19 rfl x.1 (sp_byteAt d x c) rfl rfl rfl ?_
      refine Rx_istore_n [_, _, _] dX2_hasDigitAt_5 rfl rfl rfl ?_
      refine Rx_iload_n dX2_hasDigitAt_6 rfl ?_
      refine Rx_bipush (48) dX2_hasDigitAt_7 (by decide) ?_
      refine Rx_icmp_lt_t 22 dX2_hasDigitAt_9 (by decide) c2 ?_
      refine Rx_iconst (0) dX2_hasDigitAt_22 (by decide) ?_
      exact Rx_zret dX2_hasDigitAt_23 rfl nz_0
    · have c3 : 57 < t p := Int32.not_le.mp (fun z => hp ⟨c, Int32.not_lt.mp c2, z⟩)
      refine Rx_aload_n dX2_hasDigitAt_0 rfl ?_
      refine Rx_iload_n dX2_hasDigitAt_1 rfl ?_
      refine Rx_callV [_] dX2_hasDigitAt_2 clX2_19 rfl x.1 (sp_byteAt d x c) rfl rfl rfl ?_
      refine Rx_istore_n [_, _, _] dX2_hasDigitAt_5 rfl rfl rfl ?_
      refine Rx_iload_n dX2_hasDigitAt_6 rfl ?_
      refine Rx_bipush (48) dX2_hasDigitAt_7 (by decide) ?_
      refine Rx_icmp_lt_f 22 dX2_hasDigitAt_9 (by decide) c2 ?_
      refine Rx_iload_n dX2_hasDigitAt_12 rfl ?_
      refine Rx_bipush (57) dX2_hasDigitAt_13 (by decide) ?_
      refine Rx_icmp_gt_t 22 dX2_hasDigitAt_15 (by decide) c3 ?_
      refine Rx_iconst (0) dX2_hasDigitAt_22 (by decide) ?_
      exact Rx_zret dX2_hasDigitAt_23 rfl nz_0
  · refine Rx_aload_n dX2_hasDigitAt_0 rfl ?_
    refine Rx_iload_n dX2_hasDigitAt_1 rfl ?_
    refine Rx_callV [_] dX2_hasDigitAt_2 clX2_19 rfl x.1 (sp_byteAt_e d x (Nat.not_lt.mp c) hp2) rfl rfl rfl ?_
    refine Rx_istore_n [_, _, _] dX2_hasDigitAt_5 rfl rfl rfl ?_
    refine Rx_iload_n dX2_hasDigitAt_6 rfl ?_
    refine Rx_bipush (48) dX2_hasDigitAt_7 (by decide) ?_
    refine Rx_icmp_lt_t 22 dX2_hasDigitAt_9 (by decide) (by decide) ?_
    refine Rx_iconst (0) dX2_hasDigitAt_22 (by decide) ?_
    exact Rx_zret dX2_hasDigitAt_23 rfl nz_0
/-! CnfCompiler.ClauseReader: cells 23 and 24 -/

def digb (n : Nat) (t : Nat → Int32) (p : Nat) : Bool := decide (p < n) && decide (48 ≤ t p) && decide (t p ≤ 57)
theorem digb_iff {n : Nat} {t : Nat → Int32} {p : Nat} : digb n t p = true ↔ dig n t p := by simp [digb, dig, and_assoc]
theorem digb_not {n : Nat} {t : Nat → Int32} {p : Nat} : digb n t p = false ↔ ¬ dig n t p := by rw [← digb_iff]; simp
/-- how many digits stand at q, three at most -/
def cntD (n : Nat) (t : Nat → Int32) (q : Nat) : Nat := if digb n t q then (if digb n t (q + 1) then (if digb n t (q + 2) then 3 else 2) else 1) else 0
theorem sp_countDigits (d : Nat) {h : Hp} {n q : Nat} {t : Nat → Int32} (x : TI h n t) (hq : q < 900) : Mx mX0_countDigits (d + 2) [.ref 21, .int (nI q)] h (some (.int (nI (cntD n t q)))) h := by
  have e0 : nI q + (0 : Int32) = nI q := by rw [show (0 : Int32) = nI 0 from rfl, nI_add]; rfl
  have e1 : nI q + ((0 : Int32) + 1) = nI (q + 1) := by rw [show (0 : Int32) + 1 = nI 1 from rfl, nI_add]
  have e2 : nI q + ((0 : Int32) + 1 + 1) = nI (q + 2) := by rw [show (0 : Int32) + 1 + 1 = nI 2 from rfl, nI_add]
  refine Mx_of [_, _, _] (by decide +kernel) rfl rfl ?_
  unfold cntD
  cases c0 : digb n t q with
  | false =>
    refine Rx_iconst (0) dX0_countDigits_0 (by decide) ?_
    refine Rx_istore_n [_, _, _] dX0_countDigits_1 rfl rfl rfl ?_
    refine Rx_iload_n dX0_countDigits_2 rfl ?_
    refine Rx_iconst (2) dX0_countDigits_3 (by decide) ?_
    refine Rx_icmp_gt_f 23 dX0_countDigits_4 (by decide) (by decide) ?_
    refine Rx_aload_n dX0_countDigits_7 rfl ?_
    refine Rx_iload_n dX0_countDigits_8 rfl ?_
    refine Rx_iload_n dX0_countDigits_9 rfl ?_
    refine Rx_iadd dX0_countDigits_10 ?_
    rw [e0]
    refine Rx_callV [_] dX0_countDigits_11 clX0_44 rfl x.1 (sp_hasDig_f d x (digb_not.mp c0) (by omega)) rfl rfl rfl ?_
    refine Rx_if_eq_t 23 dX0_countDigits_14 (by decide) rfl ?_
    refine Rx_iload_n dX0_countDigits_23 rfl ?_
    exact Rx_iret dX0_countDigits_24 rfl
  | true =>
    refine Rx_iconst (0) dX0_countDigits_0 (by decide) ?_
    refine Rx_istore_n [_, _, _] dX0_countDigits_1 rfl rfl rfl ?_
    refine Rx_iload_n dX0_countDigits_2 rfl ?_
    refine Rx_iconst (2) dX0_countDigits_3 (by decide) ?_
    refine Rx_icmp_gt_f 23 dX0_countDigits_4 (by decide) (by decide) ?_
    refine Rx_aload_n dX0_countDigits_7 rfl ?_
    refine Rx_iload_n dX0_countDigits_8 rfl ?_
    refine Rx_iload_n dX0_countDigits_9 rfl ?_
    refine Rx_iadd dX0_countDigits_10 ?_
    rw [e0]
    refine Rx_callV [_] dX0_countDigits_11 clX0_44 rfl x.1 (sp_hasDig_t d x (digb_iff.mp c0)) rfl rfl rfl ?_
    refine Rx_if_eq_f 23 dX0_countDigits_14 (by decide) (by decide) ?_
    refine Rx_iinc [_, _, _] (1) dX0_countDigits_17 rfl (by decide) rfl rfl rfl ?_
    refine Rx_goto 2 dX0_countDigits_20 (by decide) ?_
    cases c1 : digb n t (q + 1) with
    | false =>
      refine Rx_iload_n dX0_countDigits_2 rfl ?_
      refine Rx_iconst (2) dX0_countDigits_3 (by decide) ?_
      refine Rx_icmp_gt_f 23 dX0_countDigits_4 (by decide) (by decide) ?_
      refine Rx_aload_n dX0_countDigits_7 rfl ?_
      refine Rx_iload_n dX0_countDigits_8 rfl ?_
      refine Rx_iload_n dX0_countDigits_9 rfl ?_
      refine Rx_iadd dX0_countDigits_10 ?_
      rw [e1]
      refine Rx_callV [_] dX0_countDigits_11 clX0_44 rfl x.1 (sp_hasDig_f d x (digb_not.mp c1) (by omega)) rfl rfl rfl ?_
      refine Rx_if_eq_t 23 dX0_countDigits_14 (by decide) rfl ?_
      refine Rx_iload_n dX0_countDigits_23 rfl ?_
      exact Rx_iret dX0_countDigits_24 rfl
    | true =>
      refine Rx_iload_n dX0_countDigits_2 rfl ?_
      refine Rx_iconst (2) dX0_countDigits_3 (by decide) ?_
      refine Rx_icmp_gt_f 23 dX0_countDigits_4 (by decide) (by decide) ?_
      refine Rx_aload_n dX0_countDigits_7 rfl ?_
      refine Rx_iload_n dX0_countDigits_8 rfl ?_
      refine Rx_iload_n dX0_countDigits_9 rfl ?_
      refine Rx_iadd dX0_countDigits_10 ?_
      rw [e1]
      refine Rx_callV [_] dX0_countDigits_11 clX0_44 rfl x.1 (sp_hasDig_t d x (digb_iff.mp c1)) rfl rfl rfl ?_
      refine Rx_if_eq_f 23 dX0_countDigits_14 (by decide) (by decide) ?_
      refine Rx_iinc [_, _, _] (1) dX0_countDigits_17 rfl (by decide) rfl rfl rfl ?_
      refine Rx_goto 2 dX0_countDigits_20 (by decide) ?_
      cases c2 : digb n t (q + 2) with
      | false =>
        refine Rx_iload_n dX0_countDigits_2 rfl ?_
        refine Rx_iconst (2) dX0_countDigits_3 (by decide) ?_
        refine Rx_icmp_gt_f 23 dX0_countDigits_4 (by decide) (by decide) ?_
        refine Rx_aload_n dX0_countDigits_7 rfl ?_
        refine Rx_iload_n dX0_countDigits_8 rfl ?_
        refine Rx_iload_n dX0_countDigits_9 rfl ?_
        refine Rx_iadd dX0_countDigits_10 ?_
        rw [e2]
        refine Rx_callV [_] dX0_countDigits_11 clX0_44 rfl x.1 (sp_hasDig_f d x (digb_not.mp c2) (by omega)) rfl rfl rfl ?_
        refine Rx_if_eq_t 23 dX0_countDigits_14 (by decide) rfl ?_
        refine Rx_iload_n dX0_countDigits_23 rfl ?_
        exact Rx_iret dX0_countDigits_24 rfl
      | true =>
        refine Rx_iload_n dX0_countDigits_2 rfl ?_
        refine Rx_iconst (2) dX0_countDigits_3 (by decide) ?_
        refine Rx_icmp_gt_f 23 dX0_countDigits_4 (by decide) (by decide) ?_
        refine Rx_aload_n dX0_countDigits_7 rfl ?_
        refine Rx_iload_n dX0_countDigits_8 rfl ?_
        refine Rx_iload_n dX0_countDigits_9 rfl ?_
        refine Rx_iadd dX0_countDigits_10 ?_
        rw [e2]
        refine Rx_callV [_] dX0_countDigits_11 clX0_44 rfl x.1 (sp_hasDig_t d x (digb_iff.mp c2)) rfl rfl rfl ?_
        refine Rx_if_eq_f 23 dX0_countDigits_14 (by decide) (by decide) ?_
        refine Rx_iinc [_, _, _] (1) dX0_countDigits_17 rfl (by decide) rfl rfl rfl ?_
        refine Rx_goto 2 dX0_countDigits_20 (by decide) ?_
        refine Rx_iload_n dX0_countDigits_2 rfl ?_
        refine Rx_iconst (2) dX0_countDigits_3 (by decide) ?_
        refine Rx_icmp_gt_t 23 dX0_countDigits_4 (by decide) (by decide) ?_
        refine Rx_iload_n dX0_countDigits_23 rfl ?_
        exact Rx_iret dX0_countDigits_24 rfl
/-- the number of one or two digits at q -/
def numv (t : Nat → Int32) (q c : Nat) : Int32 := if c = 1 then t q - 48 else 10 * (t q - 48) + t (q + 1) - 48
theorem sp_numberAt1 (d : Nat) {h : Hp} {n q : Nat} {t : Nat → Int32} (x : TI h n t) (hq : q < n) : Mx mX0_numberAt (d + 1) [.ref 21, .int (nI q), .int 1] h (some (.int (t q - 48))) h := by
  have e0 : nI q + (0 : Int32) = nI q := by rw [show (0 : Int32) = nI 0 from rfl, nI_add]; rfl
  refine Mx_of [_, _, _, _, _] (by decide +kernel) rfl rfl ?_
  refine Rx_iconst (0) dX0_numberAt_0 (by decide) ?_
  refine Rx_istore_n [_, _, _, _, _] dX0_numberAt_1 rfl rfl rfl ?_
  refine Rx_iconst (0) dX0_numberAt_2 (by decide) ?_
  refine Rx_istore [_, _, _, _, _] dX0_numberAt_3 rfl rfl rfl ?_
  refine Rx_iload dX0_numberAt_5 rfl ?_
  refine Rx_iload_n dX0_numberAt_7 rfl ?_
  refine Rx_icmp_ge_f 34 dX0_numberAt_8 (by decide) (by decide) ?_
  refine Rx_bipush (10) dX0_numberAt_11 (by decide) ?_
  refine Rx_iload_n dX0_numberAt_13 rfl ?_
  refine Rx_imul dX0_numberAt_14 ?_
  refine Rx_aload_n dX0_numberAt_15 rfl ?_
  refine Rx_iload_n dX0_numberAt_16 rfl ?_
  refine Rx_iload dX0_numberAt_17 rfl ?_
  refine Rx_iadd dX0_numberAt_19 ?_
  rw [e0]
  refine Rx_callV [_] dX0_numberAt_20 clX0_37 rfl x.1 (sp_byteAt d x hq) rfl rfl rfl ?_
  refine Rx_iadd dX0_numberAt_23 ?_
  refine Rx_bipush (48) dX0_numberAt_24 (by decide) ?_
  refine Rx_isub dX0_numberAt_26 ?_
  refine Rx_istore_n [_, _, _, _, _] dX0_numberAt_27 rfl rfl rfl ?_
  refine Rx_iinc [_, _, _, _, _] (1) dX0_numberAt_28 rfl (by decide) rfl rfl rfl ?_
  refine Rx_goto 5 dX0_numberAt_31 (by decide) ?_
  rw [show (10 : Int32) * 0 + t q - 48 = t q - 48 from by rw [show (10 : Int32) * 0 = 0 from by decide, Int32.zero_add]]
  refine Rx_iload dX0_numberAt_5 rfl ?_
  refine Rx_iload_n dX0_numberAt_7 rfl ?_
  refine Rx_icmp_ge_t 34 dX0_numberAt_8 (by decide) (by decide) ?_
  refine Rx_iload_n dX0_numberAt_34 rfl ?_
  exact Rx_iret dX0_numberAt_35 rfl
theorem sp_numberAt2 (d : Nat) {h : Hp} {n q : Nat} {t : Nat → Int32} (x : TI h n t) (hq : q + 1 < n) : Mx mX0_numberAt (d + 1) [.ref 21, .int (nI q), .int 2] h (some (.int (10 * (t q - 48) + t (q + 1) - 48))) h := by
  have e0 : nI q + (0 : Int32) = nI q := by rw [show (0 : Int32) = nI 0 from rfl, nI_add]; rfl
  have e1 : nI q + ((0 : Int32) + 1) = nI (q + 1) := by rw [show (0 : Int32) + 1 = nI 1 from rfl, nI_add]
  refine Mx_of [_, _, _, _, _] (by decide +kernel) rfl rfl ?_
  refine Rx_iconst (0) dX0_numberAt_0 (by decide) ?_
  refine Rx_istore_n [_, _, _, _, _] dX0_numberAt_1 rfl rfl rfl ?_
  refine Rx_iconst (0) dX0_numberAt_2 (by decide) ?_
  refine Rx_istore [_, _, _, _, _] dX0_numberAt_3 rfl rfl rfl ?_
  refine Rx_iload dX0_numberAt_5 rfl ?_
  refine Rx_iload_n dX0_numberAt_7 rfl ?_
  refine Rx_icmp_ge_f 34 dX0_numberAt_8 (by decide) (by decide) ?_
  refine Rx_bipush (10) dX0_numberAt_11 (by decide) ?_
  refine Rx_iload_n dX0_numberAt_13 rfl ?_
  refine Rx_imul dX0_numberAt_14 ?_
  refine Rx_aload_n dX0_numberAt_15 rfl ?_
  refine Rx_iload_n dX0_numberAt_16 rfl ?_
  refine Rx_iload dX0_numberAt_17 rfl ?_
  refine Rx_iadd dX0_numberAt_19 ?_
  rw [e0]
  refine Rx_callV [_] dX0_numberAt_20 clX0_37 rfl x.1 (sp_byteAt d x (by omega)) rfl rfl rfl ?_
  refine Rx_iadd dX0_numberAt_23 ?_
  refine Rx_bipush (48) dX0_numberAt_24 (by decide) ?_
  refine Rx_isub dX0_numberAt_26 ?_
  refine Rx_istore_n [_, _, _, _, _] dX0_numberAt_27 rfl rfl rfl ?_
  refine Rx_iinc [_, _, _, _, _] (1) dX0_numberAt_28 rfl (by decide) rfl rfl rfl ?_
  refine Rx_goto 5 dX0_numberAt_31 (by decide) ?_
  rw [show (10 : Int32) * 0 + t q - 48 = t q - 48 from by rw [show (10 : Int32) * 0 = 0 from by decide, Int32.zero_add]]
  refine Rx_iload dX0_numberAt_5 rfl ?_
  refine Rx_iload_n dX0_numberAt_7 rfl ?_
  refine Rx_icmp_ge_f 34 dX0_numberAt_8 (by decide) (by decide) ?_
  refine Rx_bipush (10) dX0_numberAt_11 (by decide) ?_
  refine Rx_iload_n dX0_numberAt_13 rfl ?_
  refine Rx_imul dX0_numberAt_14 ?_
  refine Rx_aload_n dX0_numberAt_15 rfl ?_
  refine Rx_iload_n dX0_numberAt_16 rfl ?_
  refine Rx_iload dX0_numberAt_17 rfl ?_
  refine Rx_iadd dX0_numberAt_19 ?_
  rw [e1]
  refine Rx_callV [_] dX0_numberAt_20 clX0_37 rfl x.1 (sp_byteAt d x (by omega)) rfl rfl rfl ?_
  refine Rx_iadd dX0_numberAt_23 ?_
  refine Rx_bipush (48) dX0_numberAt_24 (by decide) ?_
  refine Rx_isub dX0_numberAt_26 ?_
  refine Rx_istore_n [_, _, _, _, _] dX0_numberAt_27 rfl rfl rfl ?_
  refine Rx_iinc [_, _, _, _, _] (1) dX0_numberAt_28 rfl (by decide) rfl rfl rfl ?_
  refine Rx_goto 5 dX0_numberAt_31 (by decide) ?_
  refine Rx_iload dX0_numberAt_5 rfl ?_
  refine Rx_iload_n dX0_numberAt_7 rfl ?_
  refine Rx_icmp_ge_t 34 dX0_numberAt_8 (by decide) (by decide) ?_
  refine Rx_iload_n dX0_numberAt_34 rfl ?_
  exact Rx_iret dX0_numberAt_35 rfl
