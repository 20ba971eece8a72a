/-! the reference: static helpers -/
section ST
variable (d : Nat) (h : Hp)
theorem le64 {a b : Int32} : a.toInt64 ≤ b.toInt64 ↔ a ≤ b := by
  rw [Int64.le_iff_toInt_le, Int32.le_iff_toInt_le, Int32.toInt_toInt64, Int32.toInt_toInt64]
theorem rp_in_t {v lo hi : Int64} (h1 : lo ≤ v) (h2 : v ≤ hi) : Mx mX9_in d [.long v, .long lo, .long hi] h (some (.int 1)) h := by
  refine Mx_of [_, _, _, _, _, _] (by decide +kernel) rfl rfl ?_
  refine Rx_lload_n dX9_in_0 rfl ?_
  refine Rx_lload_n dX9_in_1 rfl ?_
  refine Rx_lcmp dX9_in_2 ?_
  refine Rx_if_lt_f 17 dX9_in_3 (by decide) (fun z => absurd ((lg_cmp_lt _ _).mp z) (Int64.not_lt.mpr h1)) ?_
  refine Rx_lload_n dX9_in_6 rfl ?_
  refine Rx_lload dX9_in_7 rfl ?_
  refine Rx_lcmp dX9_in_9 ?_
  refine Rx_if_gt_f 17 dX9_in_10 (by decide) (fun z => absurd ((lg_cmp_gt _ _).mp z) (Int64.not_lt.mpr h2)) ?_
  refine Rx_iconst (1) dX9_in_13 (by decide) ?_
  refine Rx_goto 18 dX9_in_14 (by decide) ?_
  exact Rx_zret dX9_in_18 rfl (by decide)
theorem rp_in_f {v lo hi : Int64} (h1 : ¬ (lo ≤ v ∧ v ≤ hi)) : Mx mX9_in d [.long v, .long lo, .long hi] h (some (.int 0)) h := by
  refine Mx_of [_, _, _, _, _, _] (by decide +kernel) rfl rfl ?_
  by_cases c : lo ≤ v
  · have c2 : ¬ v ≤ hi := fun z => h1 ⟨c, z⟩
    refine Rx_lload_n dX9_in_0 rfl ?_
    refine Rx_lload_n dX9_in_1 rfl ?_
    refine Rx_lcmp dX9_in_2 ?_
    refine Rx_if_lt_f 17 dX9_in_3 (by decide) (fun z => absurd ((lg_cmp_lt _ _).mp z) (Int64.not_lt.mpr c)) ?_
    refine Rx_lload_n dX9_in_6 rfl ?_
    refine Rx_lload dX9_in_7 rfl ?_
    refine Rx_lcmp dX9_in_9 ?_
    refine Rx_if_gt_t 17 dX9_in_10 (by decide) ((lg_cmp_gt _ _).mpr (Int64.not_le.mp c2)) ?_
    refine Rx_iconst (0) dX9_in_17 (by decide) ?_
    exact Rx_zret dX9_in_18 rfl (by decide)
  · refine Rx_lload_n dX9_in_0 rfl ?_
    refine Rx_lload_n dX9_in_1 rfl ?_
    refine Rx_lcmp dX9_in_2 ?_
    refine Rx_if_lt_t 17 dX9_in_3 (by decide) ((lg_cmp_lt _ _).mpr (Int64.not_le.mp c)) ?_
    refine Rx_iconst (0) dX9_in_17 (by decide) ?_
    exact Rx_zret dX9_in_18 rfl (by decide)
theorem rp_in10_t {x : Int32} (z : isLzP x) : Mx mX9_in d [.long x.toInt64, .long (-10), .long 10] h (some (.int 1)) h := rp_in_t d h (show (-10 : Int32).toInt64 ≤ _ from le64.mpr z.1) (show _ ≤ (10 : Int32).toInt64 from le64.mpr z.2)
theorem rp_in10_f {x : Int32} (z : ¬ isLzP x) : Mx mX9_in d [.long x.toInt64, .long (-10), .long 10] h (some (.int 0)) h := rp_in_f d h (fun q => z ⟨le64.mp (show (-10 : Int32).toInt64 ≤ _ from q.1), le64.mp (show _ ≤ (10 : Int32).toInt64 from q.2)⟩)
theorem rp_isLit_t {x : Int32} (z : isLitP x) : Mx mX9_isLiteral (d + 1) [.int x] h (some (.int 1)) h := by
  refine Mx_of [_] (by decide +kernel) rfl rfl ?_
  refine Rx_iload_n dX9_isLiteral_0 rfl ?_
  refine Rx_if_eq_f 22 dX9_isLiteral_1 (by decide) z.1 ?_
  refine Rx_iload_n dX9_isLiteral_4 rfl ?_
  refine Rx_i2l dX9_isLiteral_5 ?_
  refine Rx_ldc2 dX9_isLiteral_6 kcX9_65 ?_
  refine Rx_ldc2 dX9_isLiteral_9 kcX9_67 ?_
  refine Rx_callS [_, _, _] dX9_isLiteral_12 clX9_69 (rp_in10_t d h z.2) rfl rfl rfl ?_
  refine Rx_if_eq_f 22 dX9_isLiteral_15 (by decide) (by decide) ?_
  refine Rx_iconst (1) dX9_isLiteral_18 (by decide) ?_
  refine Rx_goto 23 dX9_isLiteral_19 (by decide) ?_
  exact Rx_zret dX9_isLiteral_23 rfl (by decide)
theorem rp_isLit_f {x : Int32} (z : ¬ isLitP x) : Mx mX9_isLiteral (d + 1) [.int x] h (some (.int 0)) h := by
  refine Mx_of [_] (by decide +kernel) rfl rfl ?_
  by_cases c : x = 0
  · refine Rx_iload_n dX9_isLiteral_0 rfl ?_
    refine Rx_if_eq_t 22 dX9_isLiteral_1 (by decide) c ?_
    refine Rx_iconst (0) dX9_isLiteral_22 (by decide) ?_
    exact Rx_zret dX9_isLiteral_23 rfl (by decide)
  · have c2 : ¬ isLzP x := fun q => z ⟨c, q⟩
    refine Rx_iload_n dX9_isLiteral_0 rfl ?_
    refine Rx_if_eq_f 22 dX9_isLiteral_1 (by decide) c ?_
    refine Rx_iload_n dX9_isLiteral_4 rfl ?_
    refine Rx_i2l dX9_isLiteral_5 ?_
    refine Rx_ldc2 dX9_isLiteral_6 kcX9_65 ?_
    refine Rx_ldc2 dX9_isLiteral_9 kcX9_67 ?_
    refine Rx_callS [_, _, _] dX9_isLiteral_12 clX9_69 (rp_in10_f d h c2) rfl rfl rfl ?_
    refine Rx_if_eq_t 22 dX9_isLiteral_15 (by decide) rfl ?_
    refine Rx_iconst (0) dX9_isLiteral_22 (by decide) ?_
    exact Rx_zret dX9_isLiteral_23 rfl (by decide)
def rBit (x : Int32) : Int32 := if x ≤ 0 then (1 : Int32) <<< ((9 - x) &&& 31) else (1 : Int32) <<< ((x - 1) &&& 31)
theorem rp_bitOf (x : Int32) : Mx mX9_bitOf d [.int x] h (some (.int (rBit x))) h := by
  refine Mx_of [_] (by decide +kernel) rfl rfl ?_
  unfold rBit
  by_cases c : x ≤ 0
  · rw [if_pos c]
    refine Rx_iload_n dX9_bitOf_0 rfl ?_
    refine Rx_if_le_t 12 dX9_bitOf_1 (by decide) c ?_
    refine Rx_iconst (1) dX9_bitOf_12 (by decide) ?_
    refine Rx_bipush (9) dX9_bitOf_13 (by decide) ?_
    refine Rx_iload_n dX9_bitOf_15 rfl ?_
    refine Rx_isub dX9_bitOf_16 ?_
    refine Rx_ishl dX9_bitOf_17 ?_
    exact Rx_iret dX9_bitOf_18 rfl
  · rw [if_neg c]
    refine Rx_iload_n dX9_bitOf_0 rfl ?_
    refine Rx_if_le_f 12 dX9_bitOf_1 (by decide) c ?_
    refine Rx_iconst (1) dX9_bitOf_4 (by decide) ?_
    refine Rx_iload_n dX9_bitOf_5 rfl ?_
    refine Rx_iconst (1) dX9_bitOf_6 (by decide) ?_
    refine Rx_isub dX9_bitOf_7 ?_
    refine Rx_ishl dX9_bitOf_8 ?_
    refine Rx_goto 18 dX9_bitOf_9 (by decide) ?_
    exact Rx_iret dX9_bitOf_18 rfl
def rVars (x : Int32) : Int32 := (x ||| x >>> ((10 : Int32) &&& 31)) &&& 1023
theorem rp_vars (x : Int32) : Mx mX9_variables d [.int x] h (some (.int (rVars x))) h := by
  refine Mx_of [_] (by decide +kernel) rfl rfl ?_
  refine Rx_iload_n dX9_variables_0 rfl ?_
  refine Rx_iload_n dX9_variables_1 rfl ?_
  refine Rx_bipush (10) dX9_variables_2 (by decide) ?_
  refine Rx_ishr dX9_variables_4 ?_
  refine Rx_ior dX9_variables_5 ?_
  refine Rx_sipush (1023) dX9_variables_6 (by decide) ?_
  refine Rx_iand dX9_variables_9 ?_
  exact Rx_iret dX9_variables_10 rfl
/-- how many bits are set -/
def pcN (x : Int32) : Nat := fb_ct (bt x) 32
theorem low_bit {n : Nat} (h : 0 < n) : ∃ i, n.testBit i = true ∧ ∀ j, (n - 1).testBit j = if j < i then true else if j = i then false else n.testBit j := by
  have key : ∀ (k n : Nat), n ≤ k → 0 < n → ∃ i m, n = 2 ^ i * (2 * m + 1) := by
    intro k
    induction k with
    | zero => intro n a b; omega
    | succ k ih =>
      intro n a b
      by_cases c : n % 2 = 1
      · exact ⟨0, n / 2, by omega⟩
      · obtain ⟨i, m, e⟩ := ih (n / 2) (by omega) (by omega)
        refine ⟨i + 1, m, ?_⟩
        rw [Nat.pow_succ, Nat.mul_right_comm, ← e]
        omega
  obtain ⟨i, m, e⟩ := key n n (Nat.le_refl _) h
  have e2 : n = 2 ^ i * (2 * m + 1) + 0 := by omega
  have p : 0 < 2 ^ i := Nat.two_pow_pos i
  have e3 : n - 1 = 2 ^ i * (2 * m) + (2 ^ i - 1) := by
    rw [e, Nat.mul_add, Nat.mul_one]
    omega
  refine ⟨i, ?_, fun j => ?_⟩
  · rw [e2, Nat.testBit_two_pow_mul_add _ (by omega), if_neg (by omega), Nat.sub_self, Nat.testBit_zero]
    simp
  · rw [e3, Nat.testBit_two_pow_mul_add _ (by omega)]
    by_cases c : j < i
    · rw [if_pos c, if_pos c, Nat.testBit_two_pow_sub_one]
      simp [c]
    · rw [if_neg c, if_neg c]
      by_cases c2 : j = i
      · rw [if_pos c2, c2, Nat.sub_self, Nat.testBit_zero]
        simp
      · rw [if_neg c2, e2, Nat.testBit_two_pow_mul_add _ (by omega), if_neg c]
        obtain ⟨q, hq⟩ : ∃ q, j - i = q + 1 := ⟨j - i - 1, by omega⟩
        rw [hq, Nat.testBit_succ, Nat.testBit_succ, show 2 * m / 2 = m by omega, show (2 * m + 1) / 2 = m by omega]
theorem bt_nI {n : Nat} {i : Nat} (hi : i < 32) : bt (nI n) i = n.testBit i := by
  show (BitVec.ofNat 32 n).getLsbD i = _
  rw [BitVec.getLsbD_ofNat]
  simp [hi]
theorem pc_step {x : Int32} (hx : ¬ x = 0) : pcN (x &&& (x - 1)) + 1 = pcN x := by
  obtain ⟨n, hn, rfl⟩ := wb_of32 x
  have h0 : 0 < n := by
    rcases Nat.eq_zero_or_pos n with e | e
    · subst e; exact absurd rfl hx
    · exact e
  obtain ⟨i, h1, h2⟩ := low_bit h0
  have hi : i < 32 := by
    rcases Nat.lt_or_ge i 32 with c | c
    · exact c
    · rw [Nat.testBit_lt_two_pow (Nat.lt_of_lt_of_le hn (Nat.pow_le_pow_right (by decide) c))] at h1
      cases h1
  have e1 : nI n - 1 = nI (n - 1) := by
    obtain ⟨m, rfl⟩ : ∃ m, n = m + 1 := ⟨n - 1, by omega⟩
    rw [nI_pred]
    rfl
  have e2 : pcN (nI n &&& (nI n - 1)) = fb_ct (fun k => if k = i then false else bt (nI n) k) 32 := by
    unfold pcN
    apply fb_ct_cong
    intro k hk
    rw [b_and, e1, bt_nI hk, bt_nI hk, h2 k]
    by_cases c : k < i
    · rw [if_pos c, if_neg (by omega), Bool.and_true]
    · rw [if_neg c]
      by_cases c2 : k = i
      · rw [if_pos c2, Bool.and_false]
      · rw [if_neg c2, Bool.and_self]
  have e3 := fb_ct_upd (bt (nI n)) false hi
  rw [← e2, bt_nI hi, h1] at e3
  simpa [pcN] using e3
theorem pc_0 : pcN 0 = 0 := fb_ct_zero.mpr (fun k _ => b_0 k)
theorem pc_le (x : Int32) : pcN x ≤ 32 := fb_ct_le _ _
theorem ones_loop (x0 : Int32) : ∀ (k : Nat) (x : Int32) (a : Nat), pcN x = k → Rx mX9_ones d 4 [.int x0, .int (nI a), .int x] [] h (some (.int (nI (a + k)))) h := by
  intro k
  induction k with
  | zero =>
    intro x a hx
    have e : x = 0 := by
      apply Decidable.byContradiction
      intro c
      have := pc_step c
      omega
    refine Rx_iload_n dX9_ones_4 rfl ?_
    refine Rx_if_eq_t 20 dX9_ones_5 (by decide) e ?_
    refine Rx_iload_n dX9_ones_20 rfl ?_
    exact Rx_iret dX9_ones_21 rfl
  | succ k ih =>
    intro x a hx
    have c : ¬ x = 0 := fun e => by rw [e, pc_0] at hx; omega
    have := pc_step c
    refine Rx_iload_n dX9_ones_4 rfl ?_
    refine Rx_if_eq_f 20 dX9_ones_5 (by decide) c ?_
    refine Rx_iinc [_, _, _] (1) dX9_ones_8 rfl (by decide) rfl rfl rfl ?_
    refine Rx_iload_n dX9_ones_11 rfl ?_
    refine Rx_iload_n dX9_ones_12 rfl ?_
    refine Rx_iconst (1) dX9_ones_13 (by decide) ?_
    refine Rx_isub dX9_ones_14 ?_
    refine Rx_iand dX9_ones_15 ?_
    refine Rx_istore_n [_, _, _] dX9_ones_16 rfl rfl rfl ?_
    refine Rx_goto 4 dX9_ones_17 (by decide) ?_
    rw [nI_1, show a + (k + 1) = a + 1 + k by omega]
    exact ih _ (a + 1) (by omega)
theorem rp_ones (x : Int32) : Mx mX9_ones d [.int x] h (some (.int (nI (pcN x)))) h := by
  refine Mx_of [_, _, _] (by decide +kernel) rfl rfl ?_
  refine Rx_iconst (0) dX9_ones_0 (by decide) ?_
  refine Rx_istore_n [_, _, _] dX9_ones_1 rfl rfl rfl ?_
  refine Rx_iload_n dX9_ones_2 rfl ?_
  refine Rx_istore_n [_, _, _] dX9_ones_3 rfl rfl rfl ?_
  have := ones_loop d h x (pcN x) x 0 rfl
  rw [Nat.zero_add] at this
  exact this
theorem wa_ok : ∀ i, i < 21 → ¬ (nI i - 10 = 0) → (19 : Int32) + (if nI i - 10 ≤ 0 then -2 * (nI i - 10) - 1 else 2 * (nI i - 10) - 2) = nI (17 + cdN (nI i - 10)) := by decide +kernel
theorem rp_weightAt {x : Int32} (z : isLitP x) : Mx mX9_weightAt d [.int x] h (some (.int (nI (17 + cdN x)))) h := by
  obtain ⟨i, hi, rfl⟩ := lz_cases z.2
  have e := wa_ok i hi z.1
  rw [← e]
  refine Mx_of [_] (by decide +kernel) rfl rfl ?_
  by_cases c : nI i - 10 ≤ 0
  · rw [if_pos c]
    refine Rx_bipush (19) dX9_weightAt_0 (by decide) ?_
    refine Rx_iload_n dX9_weightAt_2 rfl ?_
    refine Rx_if_le_t 14 dX9_weightAt_3 (by decide) c ?_
    refine Rx_bipush (-2) dX9_weightAt_14 (by decide) ?_
    refine Rx_iload_n dX9_weightAt_16 rfl ?_
    refine Rx_imul dX9_weightAt_17 ?_
    refine Rx_iconst (1) dX9_weightAt_18 (by decide) ?_
    refine Rx_isub dX9_weightAt_19 ?_
    refine Rx_iadd dX9_weightAt_20 ?_
    exact Rx_iret dX9_weightAt_21 rfl
  · rw [if_neg c]
    refine Rx_bipush (19) dX9_weightAt_0 (by decide) ?_
    refine Rx_iload_n dX9_weightAt_2 rfl ?_
    refine Rx_if_le_f 14 dX9_weightAt_3 (by decide) c ?_
    refine Rx_iconst (2) dX9_weightAt_6 (by decide) ?_
    refine Rx_iload_n dX9_weightAt_7 rfl ?_
    refine Rx_imul dX9_weightAt_8 ?_
    refine Rx_iconst (2) dX9_weightAt_9 (by decide) ?_
    refine Rx_isub dX9_weightAt_10 ?_
    refine Rx_goto 20 dX9_weightAt_11 (by decide) ?_
    refine Rx_iadd dX9_weightAt_20 ?_
    exact Rx_iret dX9_weightAt_21 rfl
theorem lb_ok : ∀ c, c < 32 → (if nI c - nI c / 2 * 2 = 0 then nI c / 2 else -(nI c / 2)) = fLit (nI c) := by decide +kernel
theorem rp_litBy {c : Nat} (hc : c < 32) : Mx mX9_literalBy d [.int (nI c)] h (some (.int (fLit (nI c)))) h := by
  rw [← lb_ok c hc]
  refine Mx_of [_] (by decide +kernel) rfl rfl ?_
  by_cases z : nI c - nI c / 2 * 2 = 0
  · rw [if_pos z]
    refine Rx_iload_n dX9_literalBy_0 rfl ?_
    refine Rx_iconst (2) dX9_literalBy_1 (by decide) ?_
    refine Rx_irem dX9_literalBy_2 (by decide) ?_
    refine Rx_if_ne_f 12 dX9_literalBy_3 (by decide) z ?_
    refine Rx_iload_n dX9_literalBy_6 rfl ?_
    refine Rx_iconst (2) dX9_literalBy_7 (by decide) ?_
    refine Rx_idiv dX9_literalBy_8 (by decide) ?_
    refine Rx_goto 16 dX9_literalBy_9 (by decide) ?_
    exact Rx_iret dX9_literalBy_16 rfl
  · rw [if_neg z]
    refine Rx_iload_n dX9_literalBy_0 rfl ?_
    refine Rx_iconst (2) dX9_literalBy_1 (by decide) ?_
    refine Rx_irem dX9_literalBy_2 (by decide) ?_
    refine Rx_if_ne_t 12 dX9_literalBy_3 (by decide) z ?_
    refine Rx_iload_n dX9_literalBy_12 rfl ?_
    refine Rx_iconst (2) dX9_literalBy_13 (by decide) ?_
    refine Rx_idiv dX9_literalBy_14 (by decide) ?_
    refine Rx_ineg dX9_literalBy_15 ?_
    exact Rx_iret dX9_literalBy_16 rfl
theorem rp_fig_t {x : Int32} (h1 : 48 ≤ x) (h2 : x ≤ 57) : Mx mX9_isFigure (d + 1) [.int x] h (some (.int 1)) h := by
  refine Mx_of [_] (by decide +kernel) rfl rfl ?_
  refine Rx_iload_n dX9_isFigure_0 rfl ?_
  refine Rx_i2l dX9_isFigure_1 ?_
  refine Rx_ldc2 dX9_isFigure_2 kcX9_222 ?_
  refine Rx_ldc2 dX9_isFigure_5 kcX9_224 ?_
  refine Rx_callS [_, _, _] dX9_isFigure_8 clX9_69 (rp_in_t d h (show (48 : Int32).toInt64 ≤ _ from le64.mpr h1) (show _ ≤ (57 : Int32).toInt64 from le64.mpr h2)) rfl rfl rfl ?_
  exact Rx_zret dX9_isFigure_11 rfl (by decide)
theorem rp_fig_f {x : Int32} (h1 : ¬ (48 ≤ x ∧ x ≤ 57)) : Mx mX9_isFigure (d + 1) [.int x] h (some (.int 0)) h := by
  refine Mx_of [_] (by decide +kernel) rfl rfl ?_
  refine Rx_iload_n dX9_isFigure_0 rfl ?_
  refine Rx_i2l dX9_isFigure_1 ?_
  refine Rx_ldc2 dX9_isFigure_2 kcX9_222 ?_
  refine Rx_ldc2 dX9_isFigure_5 kcX9_224 ?_
  refine Rx_callS [_, _, _] dX9_isFigure_8 clX9_69 (rp_in_f d h (fun q => h1 ⟨le64.mp (show (48 : Int32).toInt64 ≤ _ from q.1), le64.mp (show _ ≤ (57 : Int32).toInt64 from q.2)⟩)) rfl rfl rfl ?_
  exact Rx_zret dX9_isFigure_11 rfl (by decide)
theorem rp_mixed (x y : Int64) : Mx mX9_mixed d [.long x, .long y] h (some (.long (31 * x + y))) h := by
  refine Mx_of [_, _, _, _] (by decide +kernel) rfl rfl ?_
  refine Rx_ldc2 dX9_mixed_0 kcX9_248 ?_
  refine Rx_lload_n dX9_mixed_3 rfl ?_
  refine Rx_lmul dX9_mixed_4 ?_
  refine Rx_lload_n dX9_mixed_5 rfl ?_
  refine Rx_ladd dX9_mixed_6 ?_
  exact Rx_lret dX9_mixed_7 rfl
end ST
