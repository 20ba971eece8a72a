/-! CnfCompiler's static helpers -/
section ST
variable (d : Nat) (h : Hp)
theorem sp_isErr_t {x : Int32} (h1 : -6 < x) (h2 : x ≤ -2) : Mx mX8_isErrorCode d [.int x] h (some (.int 1)) h := by
  refine Mx_of [_] (by decide +kernel) rfl rfl ?_
  refine Rx_iload_n dX8_isErrorCode_0 rfl ?_
  refine Rx_bipush (-2) dX8_isErrorCode_1 (by decide) ?_
  refine Rx_icmp_gt_f 16 dX8_isErrorCode_3 (by decide) (Int32.not_lt.mpr h2) ?_
  refine Rx_iload_n dX8_isErrorCode_6 rfl ?_
  refine Rx_bipush (-6) dX8_isErrorCode_7 (by decide) ?_
  refine Rx_icmp_le_f 16 dX8_isErrorCode_9 (by decide) (Int32.not_le.mpr h1) ?_
  refine Rx_iconst (1) dX8_isErrorCode_12 (by decide) ?_
  refine Rx_goto 17 dX8_isErrorCode_13 (by decide) ?_
  exact Rx_zret dX8_isErrorCode_17 rfl nz_1
theorem sp_isErr_f {x : Int32} (h1 : ¬ (-6 < x ∧ x ≤ -2)) : Mx mX8_isErrorCode d [.int x] h (some (.int 0)) h := by
  refine Mx_of [_] (by decide +kernel) rfl rfl ?_
  by_cases c : -2 < x
  · refine Rx_iload_n dX8_isErrorCode_0 rfl ?_
    refine Rx_bipush (-2) dX8_isErrorCode_1 (by decide) ?_
    refine Rx_icmp_gt_t 16 dX8_isErrorCode_3 (by decide) c ?_
    refine Rx_iconst (0) dX8_isErrorCode_16 (by decide) ?_
    exact Rx_zret dX8_isErrorCode_17 rfl nz_0
  · have c2 : x ≤ -6 := Int32.not_lt.mp (fun z => h1 ⟨z, Int32.not_lt.mp c⟩)
    refine Rx_iload_n dX8_isErrorCode_0 rfl ?_
    refine Rx_bipush (-2) dX8_isErrorCode_1 (by decide) ?_
    refine Rx_icmp_gt_f 16 dX8_isErrorCode_3 (by decide) c ?_
    refine Rx_iload_n dX8_isErrorCode_6 rfl ?_
    refine Rx_bipush (-6) dX8_isErrorCode_7 (by decide) ?_
    refine Rx_icmp_le_t 16 dX8_isErrorCode_9 (by decide) c2 ?_
    refine Rx_iconst (0) dX8_isErrorCode_16 (by decide) ?_
    exact Rx_zret dX8_isErrorCode_17 rfl nz_0
theorem sp_isLz_t {x : Int32} (h1 : -10 ≤ x) (h2 : x ≤ 10) : Mx mX8_isLiteralOrZero d [.int x] h (some (.int 1)) h := by
  refine Mx_of [_] (by decide +kernel) rfl rfl ?_
  refine Rx_iload_n dX8_isLiteralOrZero_0 rfl ?_
  refine Rx_bipush (-10) dX8_isLiteralOrZero_1 (by decide) ?_
  refine Rx_icmp_lt_f 16 dX8_isLiteralOrZero_3 (by decide) (Int32.not_lt.mpr h1) ?_
  refine Rx_iload_n dX8_isLiteralOrZero_6 rfl ?_
  refine Rx_bipush (10) dX8_isLiteralOrZero_7 (by decide) ?_
  refine Rx_icmp_gt_f 16 dX8_isLiteralOrZero_9 (by decide) (Int32.not_lt.mpr h2) ?_
  refine Rx_iconst (1) dX8_isLiteralOrZero_12 (by decide) ?_
  refine Rx_goto 17 dX8_isLiteralOrZero_13 (by decide) ?_
  exact Rx_zret dX8_isLiteralOrZero_17 rfl nz_1
theorem sp_isLz_f {x : Int32} (h1 : ¬ (-10 ≤ x ∧ x ≤ 10)) : Mx mX8_isLiteralOrZero d [.int x] h (some (.int 0)) h := by
  refine Mx_of [_] (by decide +kernel) rfl rfl ?_
  by_cases c : x < -10
  · refine Rx_iload_n dX8_isLiteralOrZero_0 rfl ?_
    refine Rx_bipush (-10) dX8_isLiteralOrZero_1 (by decide) ?_
    refine Rx_icmp_lt_t 16 dX8_isLiteralOrZero_3 (by decide) c ?_
    refine Rx_iconst (0) dX8_isLiteralOrZero_16 (by decide) ?_
    exact Rx_zret dX8_isLiteralOrZero_17 rfl nz_0
  · have c2 : 10 < x := Int32.not_le.mp (fun z => h1 ⟨Int32.not_lt.mp c, z⟩)
    refine Rx_iload_n dX8_isLiteralOrZero_0 rfl ?_
    refine Rx_bipush (-10) dX8_isLiteralOrZero_1 (by decide) ?_
    refine Rx_icmp_lt_f 16 dX8_isLiteralOrZero_3 (by decide) c ?_
    refine Rx_iload_n dX8_isLiteralOrZero_6 rfl ?_
    refine Rx_bipush (10) dX8_isLiteralOrZero_7 (by decide) ?_
    refine Rx_icmp_gt_t 16 dX8_isLiteralOrZero_9 (by decide) c2 ?_
    refine Rx_iconst (0) dX8_isLiteralOrZero_16 (by decide) ?_
    exact Rx_zret dX8_isLiteralOrZero_17 rfl nz_0
theorem sp_isLit_t {x : Int32} (h0 : ¬ x = 0) (h1 : -10 ≤ x) (h2 : x ≤ 10) : Mx mX8_isLiteral (d + 1) [.int x] h (some (.int 1)) h := by
  refine Mx_of [_] (by decide +kernel) rfl rfl ?_
  refine Rx_iload_n dX8_isLiteral_0 rfl ?_
  refine Rx_if_eq_f 15 dX8_isLiteral_1 (by decide) h0 ?_
  refine Rx_iload_n dX8_isLiteral_4 rfl ?_
  refine Rx_callS [_] dX8_isLiteral_5 clX8_80 (sp_isLz_t d h h1 h2) rfl rfl rfl ?_
  refine Rx_if_eq_f 15 dX8_isLiteral_8 (by decide) (by decide) ?_
  refine Rx_iconst (1) dX8_isLiteral_11 (by decide) ?_
  refine Rx_goto 16 dX8_isLiteral_12 (by decide) ?_
  exact Rx_zret dX8_isLiteral_16 rfl nz_1
theorem sp_isLit_f {x : Int32} (h1 : ¬ (¬ x = 0 ∧ -10 ≤ x ∧ x ≤ 10)) : Mx mX8_isLiteral (d + 1) [.int x] h (some (.int 0)) h := by
  refine Mx_of [_] (by decide +kernel) rfl rfl ?_
  by_cases c : x = 0
  · refine Rx_iload_n dX8_isLiteral_0 rfl ?_
    refine Rx_if_eq_t 15 dX8_isLiteral_1 (by decide) c ?_
    refine Rx_iconst (0) dX8_isLiteral_15 (by decide) ?_
    exact Rx_zret dX8_isLiteral_16 rfl nz_0
  · refine Rx_iload_n dX8_isLiteral_0 rfl ?_
    refine Rx_if_eq_f 15 dX8_isLiteral_1 (by decide) c ?_
    refine Rx_iload_n dX8_isLiteral_4 rfl ?_
    refine Rx_callS [_] dX8_isLiteral_5 clX8_80 (sp_isLz_f d h (fun z => h1 ⟨c, z⟩)) rfl rfl rfl ?_
    refine Rx_if_eq_t 15 dX8_isLiteral_8 (by decide) rfl ?_
    refine Rx_iconst (0) dX8_isLiteral_15 (by decide) ?_
    exact Rx_zret dX8_isLiteral_16 rfl nz_0
theorem sp_same_t {x y : Int32} (h0 : ¬ x = 0) (h1 : x = y ∨ x = -y) : Mx mX8_sameVariable d [.int x, .int y] h (some (.int 1)) h := by
  refine Mx_of [_, _] (by decide +kernel) rfl rfl ?_
  by_cases c : x = y
  · refine Rx_iload_n dX8_sameVariable_0 rfl ?_
    refine Rx_if_eq_f 19 dX8_sameVariable_1 (by decide) h0 ?_
    refine Rx_iload_n dX8_sameVariable_4 rfl ?_
    refine Rx_iload_n dX8_sameVariable_5 rfl ?_
    refine Rx_icmp_eq_t 15 dX8_sameVariable_6 (by decide) c ?_
    refine Rx_iconst (1) dX8_sameVariable_15 (by decide) ?_
    refine Rx_goto 20 dX8_sameVariable_16 (by decide) ?_
    exact Rx_zret dX8_sameVariable_20 rfl nz_1
  · have c2 : x = -y := h1.resolve_left c
    refine Rx_iload_n dX8_sameVariable_0 rfl ?_
    refine Rx_if_eq_f 19 dX8_sameVariable_1 (by decide) h0 ?_
    refine Rx_iload_n dX8_sameVariable_4 rfl ?_
    refine Rx_iload_n dX8_sameVariable_5 rfl ?_
    refine Rx_icmp_eq_f 15 dX8_sameVariable_6 (by decide) c ?_
    refine Rx_iload_n dX8_sameVariable_9 rfl ?_
    refine Rx_iload_n dX8_sameVariable_10 rfl ?_
    refine Rx_ineg dX8_sameVariable_11 ?_
    refine Rx_icmp_ne_f 19 dX8_sameVariable_12 (by decide) c2 ?_
    refine Rx_iconst (1) dX8_sameVariable_15 (by decide) ?_
    refine Rx_goto 20 dX8_sameVariable_16 (by decide) ?_
    exact Rx_zret dX8_sameVariable_20 rfl nz_1
theorem sp_same_f {x y : Int32} (h1 : x = 0 ∨ (¬ x = y ∧ ¬ x = -y)) : Mx mX8_sameVariable d [.int x, .int y] h (some (.int 0)) h := by
  refine Mx_of [_, _] (by decide +kernel) rfl rfl ?_
  by_cases c : x = 0
  · refine Rx_iload_n dX8_sameVariable_0 rfl ?_
    refine Rx_if_eq_t 19 dX8_sameVariable_1 (by decide) c ?_
    refine Rx_iconst (0) dX8_sameVariable_19 (by decide) ?_
    exact Rx_zret dX8_sameVariable_20 rfl nz_0
  · have c2 := h1.resolve_left c
    refine Rx_iload_n dX8_sameVariable_0 rfl ?_
    refine Rx_if_eq_f 19 dX8_sameVariable_1 (by decide) c ?_
    refine Rx_iload_n dX8_sameVariable_4 rfl ?_
    refine Rx_iload_n dX8_sameVariable_5 rfl ?_
    refine Rx_icmp_eq_f 15 dX8_sameVariable_6 (by decide) c2.1 ?_
    refine Rx_iload_n dX8_sameVariable_9 rfl ?_
    refine Rx_iload_n dX8_sameVariable_10 rfl ?_
    refine Rx_ineg dX8_sameVariable_11 ?_
    refine Rx_icmp_ne_t 19 dX8_sameVariable_12 (by decide) c2.2 ?_
    refine Rx_iconst (0) dX8_sameVariable_19 (by decide) ?_
    exact Rx_zret dX8_sameVariable_20 rfl nz_0
def fCode (x : Int32) : Int32 := if 0 < x then 2 * x else -2 * x + 1
theorem sp_codeOf (x : Int32) : Mx mX8_codeOf d [.int x] h (some (.int (fCode x))) h := by
  refine Mx_of [_] (by decide +kernel) rfl rfl ?_
  unfold fCode
  by_cases c : 0 < x
  · rw [if_pos c]
    refine Rx_iload_n dX8_codeOf_0 rfl ?_
    refine Rx_if_le_f 10 dX8_codeOf_1 (by decide) (Int32.not_le.mpr c) ?_
    refine Rx_iconst (2) dX8_codeOf_4 (by decide) ?_
    refine Rx_iload_n dX8_codeOf_5 rfl ?_
    refine Rx_imul dX8_codeOf_6 ?_
    refine Rx_goto 16 dX8_codeOf_7 (by decide) ?_
    exact Rx_iret dX8_codeOf_16 rfl
  · rw [if_neg c]
    refine Rx_iload_n dX8_codeOf_0 rfl ?_
    refine Rx_if_le_t 10 dX8_codeOf_1 (by decide) (Int32.not_lt.mp c) ?_
    refine Rx_bipush (-2) dX8_codeOf_10 (by decide) ?_
    refine Rx_iload_n dX8_codeOf_12 rfl ?_
    refine Rx_imul dX8_codeOf_13 ?_
    refine Rx_iconst (1) dX8_codeOf_14 (by decide) ?_
    refine Rx_iadd dX8_codeOf_15 ?_
    exact Rx_iret dX8_codeOf_16 rfl
def fLit (x : Int32) : Int32 := if x &&& 1 = 0 then x >>> ((1 : Int32) &&& 31) else -(x >>> ((1 : Int32) &&& 31))
theorem sp_literalOf (x : Int32) : Mx mX8_literalOf d [.int x] h (some (.int (fLit x))) h := by
  refine Mx_of [_] (by decide +kernel) rfl rfl ?_
  unfold fLit
  by_cases c : x &&& 1 = 0
  · rw [if_pos c]
    refine Rx_iload_n dX8_literalOf_0 rfl ?_
    refine Rx_iconst (1) dX8_literalOf_1 (by decide) ?_
    refine Rx_iand dX8_literalOf_2 ?_
    refine Rx_if_ne_f 12 dX8_literalOf_3 (by decide) c ?_
    refine Rx_iload_n dX8_literalOf_6 rfl ?_
    refine Rx_iconst (1) dX8_literalOf_7 (by decide) ?_
    refine Rx_ishr dX8_literalOf_8 ?_
    refine Rx_goto 16 dX8_literalOf_9 (by decide) ?_
    exact Rx_iret dX8_literalOf_16 rfl
  · rw [if_neg c]
    refine Rx_iload_n dX8_literalOf_0 rfl ?_
    refine Rx_iconst (1) dX8_literalOf_1 (by decide) ?_
    refine Rx_iand dX8_literalOf_2 ?_
    refine Rx_if_ne_t 12 dX8_literalOf_3 (by decide) c ?_
    refine Rx_iload_n dX8_literalOf_12 rfl ?_
    refine Rx_iconst (1) dX8_literalOf_13 (by decide) ?_
    refine Rx_ishr dX8_literalOf_14 ?_
    refine Rx_ineg dX8_literalOf_15 ?_
    exact Rx_iret dX8_literalOf_16 rfl
def fBit (x : Int32) : Int32 := if x = 0 then 0 else (1 : Int32) <<< (fCode x &&& 31)
theorem sp_bitOf (x : Int32) : Mx mX8_bitOf (d + 1) [.int x] h (some (.int (fBit x))) h := by
  refine Mx_of [_] (by decide +kernel) rfl rfl ?_
  unfold fBit
  by_cases c : x = 0
  · rw [if_pos c]
    refine Rx_iload_n dX8_bitOf_0 rfl ?_
    refine Rx_if_ne_f 8 dX8_bitOf_1 (by decide) c ?_
    refine Rx_iconst (0) dX8_bitOf_4 (by decide) ?_
    refine Rx_goto 14 dX8_bitOf_5 (by decide) ?_
    exact Rx_iret dX8_bitOf_14 rfl
  · rw [if_neg c]
    refine Rx_iload_n dX8_bitOf_0 rfl ?_
    refine Rx_if_ne_t 8 dX8_bitOf_1 (by decide) c ?_
    refine Rx_iconst (1) dX8_bitOf_8 (by decide) ?_
    refine Rx_iload_n dX8_bitOf_9 rfl ?_
    refine Rx_callS [_] dX8_bitOf_10 clX8_129 (sp_codeOf d h x) rfl rfl rfl ?_
    refine Rx_ishl dX8_bitOf_13 ?_
    exact Rx_iret dX8_bitOf_14 rfl
def fCon (x y : Int32) : Prop := ¬ (x >>> (y &&& 31)) &&& 1 = 0
theorem sp_contains_t {x y : Int32} (h1 : fCon x y) : Mx mX8_contains d [.int x, .int y] h (some (.int 1)) h := by
  refine Mx_of [_, _] (by decide +kernel) rfl rfl ?_
  refine Rx_iload_n dX8_contains_0 rfl ?_
  refine Rx_iload_n dX8_contains_1 rfl ?_
  refine Rx_ishr dX8_contains_2 ?_
  refine Rx_iconst (1) dX8_contains_3 (by decide) ?_
  refine Rx_iand dX8_contains_4 ?_
  refine Rx_if_eq_f 12 dX8_contains_5 (by decide) h1 ?_
  refine Rx_iconst (1) dX8_contains_8 (by decide) ?_
  refine Rx_goto 13 dX8_contains_9 (by decide) ?_
  exact Rx_zret dX8_contains_13 rfl nz_1
theorem sp_contains_f {x y : Int32} (h1 : ¬ fCon x y) : Mx mX8_contains d [.int x, .int y] h (some (.int 0)) h := by
  refine Mx_of [_, _] (by decide +kernel) rfl rfl ?_
  refine Rx_iload_n dX8_contains_0 rfl ?_
  refine Rx_iload_n dX8_contains_1 rfl ?_
  refine Rx_ishr dX8_contains_2 ?_
  refine Rx_iconst (1) dX8_contains_3 (by decide) ?_
  refine Rx_iand dX8_contains_4 ?_
  refine Rx_if_eq_t 12 dX8_contains_5 (by decide) (Decidable.not_not.mp h1) ?_
  refine Rx_iconst (0) dX8_contains_12 (by decide) ?_
  exact Rx_zret dX8_contains_13 rfl nz_0
def fVars (x : Int32) : Int32 := (x ||| x >>> ((1 : Int32) &&& 31)) &&& 1398100
theorem sp_varsOf (x : Int32) : Mx mX8_variablesOf d [.int x] h (some (.int (fVars x))) h := by
  refine Mx_of [_] (by decide +kernel) rfl rfl ?_
  refine Rx_iload_n dX8_variablesOf_0 rfl ?_
  refine Rx_iload_n dX8_variablesOf_1 rfl ?_
  refine Rx_iconst (1) dX8_variablesOf_2 (by decide) ?_
  refine Rx_ishr dX8_variablesOf_3 ?_
  refine Rx_ior dX8_variablesOf_4 ?_
  refine Rx_ldc dX8_variablesOf_5 kcX8_238 ?_
  refine Rx_iand dX8_variablesOf_7 ?_
  exact Rx_iret dX8_variablesOf_8 rfl
def fOpp (x : Int32) : Int32 := (x &&& 1398100) <<< ((1 : Int32) &&& 31) ||| x >>> ((1 : Int32) &&& 31) &&& 1398100
theorem sp_oppOf (x : Int32) : Mx mX8_oppositesOf d [.int x] h (some (.int (fOpp x))) h := by
  refine Mx_of [_] (by decide +kernel) rfl rfl ?_
  refine Rx_iload_n dX8_oppositesOf_0 rfl ?_
  refine Rx_ldc dX8_oppositesOf_1 kcX8_238 ?_
  refine Rx_iand dX8_oppositesOf_3 ?_
  refine Rx_iconst (1) dX8_oppositesOf_4 (by decide) ?_
  refine Rx_ishl dX8_oppositesOf_5 ?_
  refine Rx_iload_n dX8_oppositesOf_6 rfl ?_
  refine Rx_iconst (1) dX8_oppositesOf_7 (by decide) ?_
  refine Rx_ishr dX8_oppositesOf_8 ?_
  refine Rx_ldc dX8_oppositesOf_9 kcX8_238 ?_
  refine Rx_iand dX8_oppositesOf_11 ?_
  refine Rx_ior dX8_oppositesOf_12 ?_
  exact Rx_iret dX8_oppositesOf_13 rfl
end ST
