/-! CnfCompiler.ModelSet: cells 32, 33 (words), 34 (satisfying) -/
theorem kcInn : Cond.fieldLink RX5 18 RX5 "INNER_WORDS" "[J" ∈ gtbl := gt_mem (by decide +kernel) (by decide +kernel)
theorem lw_st {d v : Nat} {ls st : List Value} {h : Hp} {r : Option Value} {h' : Hp} (hi : lat ls 2 = some (.int (nI (v + 1)))) (hv : v < 6) (K : Rx mX5_literalWord d 22 ls (.long (inn v) :: st) h r h') : Rx mX5_literalWord d 15 ls st h r h' :=
  K.step (fun C _ w hl k => by
    obtain ⟨c1, c2, c3, c4, c5, c6, c7, c8, c9, c10⟩ := C
    obtain ⟨t, z1, z2⟩ := c10.2.2
    refine va_gets c1 c2 z1 w.2.2.1 c7 (c8 _ kcInn) (fun _ z => z) dX5_literalWord_15 ?_
    refine lv_iload_n c1 c2 dX5_literalWord_18 rfl (hl.2.2 2 _ hi rfl) ?_
    refine lv_iconst (v := 1) c1 c2 dX5_literalWord_19 (by decide) ?_
    refine lv_isub c1 c2 dX5_literalWord_20 ?_
    rw [nI_pred]
    refine va_tl (v := .long (inn v)) c1 c2 z2 w.2.2.1 (vp_in_nI hv (by decide)) (by rw [nI_clamp (by omega)]) dX5_literalWord_21 ?_
    exact k)
/-- a word of all assignments in which the literal of code c is true -/
def lw0 (c i : Nat) : Int64 := if c / 2 ≤ 6 then inn (c / 2 - 1) else if i / 2 ^ (c / 2 - 7) % 2 = 0 then 0 else -1
def lwv (c i : Nat) : Int64 := if c % 2 = 0 then lw0 c i else lw0 c i ^^^ (-1)
theorem nI_m2 {n : Nat} (h : n < 2 ^ 32) : nI n &&& 1 = nI (n % 2) := pk_andN h 1 (by decide)
theorem nI_d2 {n : Nat} (h : n < 2 ^ 31) : nI n >>> ((1 : Int32) &&& 31) = nI (n / 2) := pk_shrN h _ 1 (by decide)
theorem lw_47 (d : Nat) (h : Hp) {c : Nat} (hc : c ≤ 21) (x1 x2 : Int32) (w : Int64) : Rx mX5_literalWord d 47 [.int (nI c), .int x1, .int x2, .long w, .retAddr 0] [] h (some (.long (if c % 2 = 0 then w else w ^^^ (-1)))) h := by
  by_cases e : c % 2 = 0
  · rw [if_pos e]
    refine Rx_iload_n dX5_literalWord_47 rfl ?_
    refine Rx_iconst (1) dX5_literalWord_48 (by decide) ?_
    refine Rx_iand dX5_literalWord_49 ?_
    refine Rx_if_ne_f 57 dX5_literalWord_50 (by decide) (by rw [nI_m2 (by omega), e]; rfl) ?_
    refine Rx_lload_n dX5_literalWord_53 rfl ?_
    refine Rx_goto 62 dX5_literalWord_54 (by decide) ?_
    exact Rx_lret dX5_literalWord_62 rfl
  · have e1 : c % 2 = 1 := by omega
    rw [if_neg e]
    refine Rx_iload_n dX5_literalWord_47 rfl ?_
    refine Rx_iconst (1) dX5_literalWord_48 (by decide) ?_
    refine Rx_iand dX5_literalWord_49 ?_
    refine Rx_if_ne_t 57 dX5_literalWord_50 (by decide) (by rw [nI_m2 (by omega), e1]; decide) ?_
    refine Rx_lload_n dX5_literalWord_57 rfl ?_
    refine Rx_ldc2 dX5_literalWord_58 kcX5_21 ?_
    refine Rx_lxor dX5_literalWord_61 ?_
    exact Rx_lret dX5_literalWord_62 rfl
theorem sp_lw (d : Nat) (h : Hp) {c i : Nat} (hc1 : 2 ≤ c) (hc : c ≤ 21) (hi : i < 16) : Mx mX5_literalWord d [.int (nI c), .int (nI i)] h (some (.long (lwv c i))) h := by
  refine Mx_of [_, _, _, _, _] (by decide +kernel) rfl rfl ?_
  unfold lwv
  refine Rx_iload_n dX5_literalWord_0 rfl ?_
  refine Rx_iconst (1) dX5_literalWord_1 (by decide) ?_
  refine Rx_ishr dX5_literalWord_2 ?_
  rw [nI_d2 (by omega)]
  by_cases v6 : c / 2 ≤ 6
  · obtain ⟨v, hv⟩ : ∃ v, c / 2 = v + 1 := ⟨c / 2 - 1, by omega⟩
    rw [hv]
    refine Rx_istore_n [_, _, _, _, _] dX5_literalWord_3 rfl rfl rfl ?_
    refine Rx_iload_n dX5_literalWord_4 rfl ?_
    refine Rx_iconst (1) dX5_literalWord_5 (by decide) ?_
    refine Rx_icmp_lt_f 26 dX5_literalWord_6 (by decide) (nI_nlt (b := 1) (by omega) (by omega)) ?_
    refine Rx_iload_n dX5_literalWord_9 rfl ?_
    refine Rx_bipush (6) dX5_literalWord_10 (by decide) ?_
    refine Rx_icmp_gt_f 26 dX5_literalWord_12 (by decide) (nI_nlt (b := v + 1) (a := 6) (by omega) (by decide)) ?_
    refine lw_st rfl (by omega) ?_
    refine Rx_lstore_n [_, _, _, _, _] dX5_literalWord_22 rfl rfl rfl ?_
    refine Rx_goto 47 dX5_literalWord_23 (by decide) ?_
    have := lw_47 d h hc (nI i) (nI (v + 1)) (inn v)
    rw [show lw0 c i = inn v from by rw [lw0, if_pos v6, hv]; rfl]
    exact this
  · have v10 : c / 2 ≤ 10 := by omega
    generalize hv : c / 2 = v at v6 v10 ⊢
    refine Rx_istore_n [_, _, _, _, _] dX5_literalWord_3 rfl rfl rfl ?_
    refine Rx_iload_n dX5_literalWord_4 rfl ?_
    refine Rx_iconst (1) dX5_literalWord_5 (by decide) ?_
    refine Rx_icmp_lt_f 26 dX5_literalWord_6 (by decide) (nI_nlt (b := 1) (by omega) (by omega)) ?_
    refine Rx_iload_n dX5_literalWord_9 rfl ?_
    refine Rx_bipush (6) dX5_literalWord_10 (by decide) ?_
    refine Rx_icmp_gt_t 26 dX5_literalWord_12 (by decide) (nI_lt (a := 6) (by omega) (by omega)) ?_
    refine Rx_iload_n dX5_literalWord_26 rfl ?_
    refine Rx_iload_n dX5_literalWord_27 rfl ?_
    refine Rx_bipush (6) dX5_literalWord_28 (by decide) ?_
    refine Rx_isub dX5_literalWord_30 ?_
    refine Rx_iconst (1) dX5_literalWord_31 (by decide) ?_
    refine Rx_isub dX5_literalWord_32 ?_
    rw [show nI v - 6 - 1 = nI (v - 7) from by rw [show (6 : Int32) = nI 6 from rfl, pk_sub (by omega), show (1 : Int32) = nI 1 from rfl, pk_sub (by omega)]; rfl]
    refine Rx_ishr dX5_literalWord_33 ?_
    refine Rx_iconst (1) dX5_literalWord_34 (by decide) ?_
    refine Rx_iand dX5_literalWord_35 ?_
    rw [pk_shrN (by omega) _ (v - 7) (s_l _ (by omega)), nI_m2 (by have := Nat.div_le_self i (2 ^ (v - 7)); omega)]
    rw [show lw0 c i = if i / 2 ^ (v - 7) % 2 = 0 then 0 else -1 from by rw [lw0, hv, if_neg v6]]
    by_cases e : i / 2 ^ (v - 7) % 2 = 0
    · rw [if_pos e]
      refine Rx_if_eq_t 45 dX5_literalWord_36 (by decide) (by rw [e]; rfl) ?_
      refine Rx_lconst (0) dX5_literalWord_45 (by decide) ?_
      refine Rx_lstore_n [_, _, _, _, _] dX5_literalWord_46 rfl rfl rfl ?_
      exact lw_47 d h hc _ _ _
    · rw [if_neg e]
      have e1 : i / 2 ^ (v - 7) % 2 = 1 := by omega
      refine Rx_if_eq_f 45 dX5_literalWord_36 (by decide) (by rw [e1]; decide) ?_
      refine Rx_ldc2 dX5_literalWord_39 kcX5_21 ?_
      refine Rx_goto 46 dX5_literalWord_42 (by decide) ?_
      refine Rx_lstore_n [_, _, _, _, _] dX5_literalWord_46 rfl rfl rfl ?_
      exact lw_47 d h hc _ _ _
def MI (h : Hp) (f : Nat → Int64) : Prop := h[32]? = some (.inr (5, [.ref 33, .ref 34])) ∧ h[33]? = some (aL 16 f) ∧ ∃ g, h[34]? = some (aL 16 g)
theorem MI.fr {T : List Nat} {h h' : Hp} {f : Nat → Int64} (x : MI h f) (F : Fr T h h') (h1 : 32 ∉ T) (h2 : 33 ∉ T) (h3 : 34 ∉ T) : MI h' f := by
  obtain ⟨a, b, g, c⟩ := x
  exact ⟨F.at h1 a, F.at h2 b, g, F.at h3 c⟩
theorem sp_wordAt (d : Nat) {h : Hp} {f : Nat → Int64} (x : MI h f) {i : Nat} (hi : i < 16) : Mx mX5_wordAt d [.ref 32, .int (nI i)] h (some (.long (f i))) h := by
  obtain ⟨h1, h2, -⟩ := x
  refine Mx_of [_, _] (by decide +kernel) rfl rfl ?_
  refine Rx_iload_n dX5_wordAt_0 rfl ?_
  refine Rx_if_lt_f 19 dX5_wordAt_1 (by decide) (nI_pos (by omega)) ?_
  refine Rx_iload_n dX5_wordAt_4 rfl ?_
  refine Rx_bipush (16) dX5_wordAt_5 (by decide) ?_
  refine Rx_icmp_ge_f 19 dX5_wordAt_7 (by decide) (nI_ge (b := 16) hi (by decide)) ?_
  refine Rx_aload_n dX5_wordAt_10 rfl ?_
  refine Rx_get dX5_wordAt_11 flX5_9 h1 rfl ?_
  refine Rx_iload_n dX5_wordAt_14 rfl ?_
  refine Rx_lald i dX5_wordAt_15 h2 hi (by decide) rfl ?_
  refine Rx_goto 20 dX5_wordAt_16 (by decide) ?_
  exact Rx_lret dX5_wordAt_20 rfl
/-- bit b of a word -/
def tbL (x : Int64) (b : Nat) : Bool := x.toBitVec.getLsbD b
theorem sp_has (d : Nat) {h : Hp} {f : Nat → Int64} (x : MI h f) {a : Nat} (ha : a < 1024) : Mx mX5_has (d + 1) [.ref 32, .int (nI a)] h (some (.int (if tbL (f (a / 64)) (a % 64) then 1 else 0))) h := by
  have key : ((ushL (f (a / 64)) (nI (a % 64))) &&& 1 = 0) ↔ tbL (f (a / 64)) (a % 64) = false := by
    have hs : ((nI (a % 64)).toInt64.toUInt64 &&& Int64.toUInt64 63).toNat = a % 64 := by
      rw [wb_cu _ (by omega)]
      exact u_tn (by omega)
    exact ts_bit (by omega) hs
  refine Mx_of [_, _] (by decide +kernel) rfl rfl ?_
  refine Rx_aload_n dX5_has_0 rfl ?_
  refine Rx_iload_n dX5_has_1 rfl ?_
  refine Rx_bipush (6) dX5_has_2 (by decide) ?_
  refine Rx_ishr dX5_has_4 ?_
  rw [pk_shrN (by omega) _ 6 (by decide), show a / 2 ^ 6 = a / 64 from rfl]
  refine Rx_callV [_] dX5_has_5 clX5_54 rfl x.1 (sp_wordAt d x (by omega)) rfl rfl rfl ?_
  refine Rx_iload_n dX5_has_8 rfl ?_
  refine Rx_bipush (63) dX5_has_9 (by decide) ?_
  refine Rx_iand dX5_has_11 ?_
  rw [pk_andN (by omega) 6 (by decide), show a % 2 ^ 6 = a % 64 from rfl]
  cases c : tbL (f (a / 64)) (a % 64) with
  | true =>
    refine Rx_lushr dX5_has_12 ?_
    refine Rx_lconst (1) dX5_has_13 (by decide) ?_
    refine Rx_land dX5_has_14 ?_
    refine Rx_lconst (0) dX5_has_15 (by decide) ?_
    refine Rx_lcmp dX5_has_16 ?_
    refine Rx_if_eq_f 24 dX5_has_17 (by decide) (fun z => by rw [lg_cmp_eq] at z; have := key.mp z; rw [c] at this; cases this) ?_
    refine Rx_iconst (1) dX5_has_20 (by decide) ?_
    refine Rx_goto 25 dX5_has_21 (by decide) ?_
    exact Rx_zret dX5_has_25 rfl nz_1
  | false =>
    refine Rx_lushr dX5_has_12 ?_
    refine Rx_lconst (1) dX5_has_13 (by decide) ?_
    refine Rx_land dX5_has_14 ?_
    refine Rx_lconst (0) dX5_has_15 (by decide) ?_
    refine Rx_lcmp dX5_has_16 ?_
    refine Rx_if_eq_t 24 dX5_has_17 (by decide) (by rw [lg_cmp_eq]; exact key.mpr c) ?_
    refine Rx_iconst (0) dX5_has_24 (by decide) ?_
    exact Rx_zret dX5_has_25 rfl nz_0
/-- a sum of ints -/
def sumI (g : Nat → Int32) : Nat → Int32
  | 0 => 0
  | n + 1 => sumI g n + g n
theorem size_loop (d : Nat) {h : Hp} {f : Nat → Int64} (x : MI h f) : ∀ (k i : Nat), i + k = 16 → Rx mX5_size (d + 1) 4 [.ref 32, .int (sumI (fun j => bcL (f j)) i), .int (nI i)] [] h (some (.int (sumI (fun j => bcL (f j)) 16))) h := by
  intro k
  induction k with
  | zero =>
    intro i hi
    have e : i = 16 := by omega
    subst e
    refine Rx_iload_n dX5_size_4 rfl ?_
    refine Rx_bipush (16) dX5_size_5 (by decide) ?_
    refine Rx_icmp_ge_t 28 dX5_size_7 (by decide) (nI_le (Nat.le_refl _) (by decide)) ?_
    refine Rx_iload_n dX5_size_28 rfl ?_
    exact Rx_iret dX5_size_29 rfl
  | succ k ih =>
    intro i hi
    refine Rx_iload_n dX5_size_4 rfl ?_
    refine Rx_bipush (16) dX5_size_5 (by decide) ?_
    refine Rx_icmp_ge_f 28 dX5_size_7 (by decide) (nI_ge (b := 16) (by omega) (by decide)) ?_
    refine Rx_iload_n dX5_size_10 rfl ?_
    refine Rx_aload_n dX5_size_11 rfl ?_
    refine Rx_get dX5_size_12 flX5_9 x.1 rfl ?_
    refine Rx_iload_n dX5_size_15 rfl ?_
    refine Rx_lald i dX5_size_16 x.2.1 (by omega) (by decide) rfl ?_
    refine Rx_callS [_] dX5_size_17 clX5_58 (sp_bitCountL d h (f i)) rfl rfl rfl ?_
    refine Rx_iadd dX5_size_20 ?_
    refine Rx_istore_n [_, _, _] dX5_size_21 rfl rfl rfl ?_
    refine Rx_iinc [_, _, _] (1) dX5_size_22 rfl (by decide) rfl rfl rfl ?_
    refine Rx_goto 4 dX5_size_25 (by decide) ?_
    rw [nI_1]
    exact ih (i + 1) (by omega)
theorem sp_size (d : Nat) {h : Hp} {f : Nat → Int64} (x : MI h f) : Mx mX5_size (d + 1) [.ref 32] h (some (.int (sumI (fun j => bcL (f j)) 16))) h := by
  refine Mx_of [_, _, _] (by decide +kernel) rfl rfl ?_
  refine Rx_iconst (0) dX5_size_0 (by decide) ?_
  refine Rx_istore_n [_, _, _] dX5_size_1 rfl rfl rfl ?_
  refine Rx_iconst (0) dX5_size_2 (by decide) ?_
  refine Rx_istore_n [_, _, _] dX5_size_3 rfl rfl rfl ?_
  exact size_loop d x 16 0 rfl
theorem sizeWith_loop (d : Nat) {h : Hp} {f : Nat → Int64} (x : MI h f) {c : Nat} (hc1 : 2 ≤ c) (hc : c ≤ 21) : ∀ (k i : Nat), i + k = 16 → Rx mX5_sizeWith (d + 1) 4 [.ref 32, .int (nI c), .int (sumI (fun j => bcL (f j &&& lwv c j)) i), .int (nI i)] [] h (some (.int (sumI (fun j => bcL (f j &&& lwv c j)) 16))) h := by
  intro k
  induction k with
  | zero =>
    intro i hi
    have e : i = 16 := by omega
    subst e
    refine Rx_iload_n dX5_sizeWith_4 rfl ?_
    refine Rx_bipush (16) dX5_sizeWith_5 (by decide) ?_
    refine Rx_icmp_ge_t 34 dX5_sizeWith_7 (by decide) (nI_le (Nat.le_refl _) (by decide)) ?_
    refine Rx_iload_n dX5_sizeWith_34 rfl ?_
    exact Rx_iret dX5_sizeWith_35 rfl
  | succ k ih =>
    intro i hi
    refine Rx_iload_n dX5_sizeWith_4 rfl ?_
    refine Rx_bipush (16) dX5_sizeWith_5 (by decide) ?_
    refine Rx_icmp_ge_f 34 dX5_sizeWith_7 (by decide) (nI_ge (b := 16) (by omega) (by decide)) ?_
    refine Rx_iload_n dX5_sizeWith_10 rfl ?_
    refine Rx_aload_n dX5_sizeWith_11 rfl ?_
    refine Rx_get dX5_sizeWith_12 flX5_9 x.1 rfl ?_
    refine Rx_iload_n dX5_sizeWith_15 rfl ?_
    refine Rx_lald i dX5_sizeWith_16 x.2.1 (by omega) (by decide) rfl ?_
    refine Rx_iload_n dX5_sizeWith_17 rfl ?_
    refine Rx_iload_n dX5_sizeWith_18 rfl ?_
    refine Rx_callS [_, _] dX5_sizeWith_19 clX5_50 (sp_lw d h hc1 hc (by omega)) rfl rfl rfl ?_
    refine Rx_land dX5_sizeWith_22 ?_
    refine Rx_callS [_] dX5_sizeWith_23 clX5_58 (sp_bitCountL d h (f i &&& lwv c i)) rfl rfl rfl ?_
    refine Rx_iadd dX5_sizeWith_26 ?_
    refine Rx_istore_n [_, _, _, _] dX5_sizeWith_27 rfl rfl rfl ?_
    refine Rx_iinc [_, _, _, _] (1) dX5_sizeWith_28 rfl (by decide) rfl rfl rfl ?_
    refine Rx_goto 4 dX5_sizeWith_31 (by decide) ?_
    rw [nI_1]
    exact ih (i + 1) (by omega)
theorem sp_sizeWith (d : Nat) {h : Hp} {f : Nat → Int64} (x : MI h f) {c : Nat} (hc1 : 2 ≤ c) (hc : c ≤ 21) : Mx mX5_sizeWith (d + 1) [.ref 32, .int (nI c)] h (some (.int (sumI (fun j => bcL (f j &&& lwv c j)) 16))) h := by
  refine Mx_of [_, _, _, _] (by decide +kernel) rfl rfl ?_
  refine Rx_iconst (0) dX5_sizeWith_0 (by decide) ?_
  refine Rx_istore_n [_, _, _, _] dX5_sizeWith_1 rfl rfl rfl ?_
  refine Rx_iconst (0) dX5_sizeWith_2 (by decide) ?_
  refine Rx_istore_n [_, _, _, _] dX5_sizeWith_3 rfl rfl rfl ?_
  exact sizeWith_loop d x hc1 hc 16 0 rfl
/-! the JDK's numberOfTrailingZeros, as it is written -/
def tzS (thr sh : Int32) (q : Int32 × Int32) : Int32 × Int32 := if thr < q.2 then (q.1 + sh, ush q.2 sh) else q
def tzM (m : Int32) : Int32 := if 0 < m then (tzS 4 2 (tzS 16 4 (tzS 256 8 (tzS 65536 16 (1, m))))).1 + ush (tzS 4 2 (tzS 16 4 (tzS 256 8 (tzS 65536 16 (1, m))))).2 1 else m &&& 32
def tzI (x : Int32) : Int32 := tzM ((x ^^^ (-1)) &&& (x - 1))
theorem tz_74 (d : Nat) (h : Hp) (q : Int32 × Int32) : Rx mJ6_numberOfTrailingZeros_0f7a4 d 74 [.int q.2, .int q.1] [] h (some (.int (q.1 + ush q.2 1))) h := by
  refine Rx_iload_n dJ6_numberOfTrailingZeros_0f7a4_74 rfl ?_
  refine Rx_iload_n dJ6_numberOfTrailingZeros_0f7a4_75 rfl ?_
  refine Rx_iconst (1) dJ6_numberOfTrailingZeros_0f7a4_76 (by decide) ?_
  refine Rx_iushr dJ6_numberOfTrailingZeros_0f7a4_77 ?_
  refine Rx_iadd dJ6_numberOfTrailingZeros_0f7a4_78 ?_
  exact Rx_iret dJ6_numberOfTrailingZeros_0f7a4_79 rfl
theorem tz_62 (d : Nat) (h : Hp) (q : Int32 × Int32) : Rx mJ6_numberOfTrailingZeros_0f7a4 d 62 [.int q.2, .int q.1] [] h (some (.int ((tzS 4 2 q).1 + ush (tzS 4 2 q).2 1))) h := by
  by_cases c : 4 < q.2
  · refine Rx_iload_n dJ6_numberOfTrailingZeros_0f7a4_62 rfl ?_
    refine Rx_iconst (4) dJ6_numberOfTrailingZeros_0f7a4_63 (by decide) ?_
    refine Rx_icmp_le_f 74 dJ6_numberOfTrailingZeros_0f7a4_64 (by decide) (Int32.not_le.mpr c) ?_
    refine Rx_iinc [_, _] (2) dJ6_numberOfTrailingZeros_0f7a4_67 rfl (by decide) rfl rfl rfl ?_
    refine Rx_iload_n dJ6_numberOfTrailingZeros_0f7a4_70 rfl ?_
    refine Rx_iconst (2) dJ6_numberOfTrailingZeros_0f7a4_71 (by decide) ?_
    refine Rx_iushr dJ6_numberOfTrailingZeros_0f7a4_72 ?_
    refine Rx_istore_n [_, _] dJ6_numberOfTrailingZeros_0f7a4_73 rfl rfl rfl ?_
    rw [tzS, if_pos c]
    exact tz_74 d h (q.1 + 2, ush q.2 2)
  · refine Rx_iload_n dJ6_numberOfTrailingZeros_0f7a4_62 rfl ?_
    refine Rx_iconst (4) dJ6_numberOfTrailingZeros_0f7a4_63 (by decide) ?_
    refine Rx_icmp_le_t 74 dJ6_numberOfTrailingZeros_0f7a4_64 (by decide) (Int32.not_lt.mp c) ?_
    rw [tzS, if_neg c]
    exact tz_74 d h q
theorem tz_49 (d : Nat) (h : Hp) (q : Int32 × Int32) : Rx mJ6_numberOfTrailingZeros_0f7a4 d 49 [.int q.2, .int q.1] [] h (some (.int ((tzS 4 2 (tzS 16 4 q)).1 + ush (tzS 4 2 (tzS 16 4 q)).2 1))) h := by
  by_cases c : 16 < q.2
  · refine Rx_iload_n dJ6_numberOfTrailingZeros_0f7a4_49 rfl ?_
    refine Rx_bipush (16) dJ6_numberOfTrailingZeros_0f7a4_50 (by decide) ?_
    refine Rx_icmp_le_f 62 dJ6_numberOfTrailingZeros_0f7a4_52 (by decide) (Int32.not_le.mpr c) ?_
    refine Rx_iinc [_, _] (4) dJ6_numberOfTrailingZeros_0f7a4_55 rfl (by decide) rfl rfl rfl ?_
    refine Rx_iload_n dJ6_numberOfTrailingZeros_0f7a4_58 rfl ?_
    refine Rx_iconst (4) dJ6_numberOfTrailingZeros_0f7a4_59 (by decide) ?_
    refine Rx_iushr dJ6_numberOfTrailingZeros_0f7a4_60 ?_
    refine Rx_istore_n [_, _] dJ6_numberOfTrailingZeros_0f7a4_61 rfl rfl rfl ?_
    rw [show tzS 16 4 q = (q.1 + 4, ush q.2 4) from by rw [tzS, if_pos c]]
    exact tz_62 d h (q.1 + 4, ush q.2 4)
  · refine Rx_iload_n dJ6_numberOfTrailingZeros_0f7a4_49 rfl ?_
    refine Rx_bipush (16) dJ6_numberOfTrailingZeros_0f7a4_50 (by decide) ?_
    refine Rx_icmp_le_t 62 dJ6_numberOfTrailingZeros_0f7a4_52 (by decide) (Int32.not_lt.mp c) ?_
    rw [show tzS 16 4 q = q from by rw [tzS, if_neg c]]
    exact tz_62 d h q
theorem tz_34 (d : Nat) (h : Hp) (q : Int32 × Int32) : Rx mJ6_numberOfTrailingZeros_0f7a4 d 34 [.int q.2, .int q.1] [] h (some (.int ((tzS 4 2 (tzS 16 4 (tzS 256 8 q))).1 + ush (tzS 4 2 (tzS 16 4 (tzS 256 8 q))).2 1))) h := by
  by_cases c : 256 < q.2
  · refine Rx_iload_n dJ6_numberOfTrailingZeros_0f7a4_34 rfl ?_
    refine Rx_sipush (256) dJ6_numberOfTrailingZeros_0f7a4_35 (by decide) ?_
    refine Rx_icmp_le_f 49 dJ6_numberOfTrailingZeros_0f7a4_38 (by decide) (Int32.not_le.mpr c) ?_
    refine Rx_iinc [_, _] (8) dJ6_numberOfTrailingZeros_0f7a4_41 rfl (by decide) rfl rfl rfl ?_
    refine Rx_iload_n dJ6_numberOfTrailingZeros_0f7a4_44 rfl ?_
    refine Rx_bipush (8) dJ6_numberOfTrailingZeros_0f7a4_45 (by decide) ?_
    refine Rx_iushr dJ6_numberOfTrailingZeros_0f7a4_47 ?_
    refine Rx_istore_n [_, _] dJ6_numberOfTrailingZeros_0f7a4_48 rfl rfl rfl ?_
    rw [show tzS 256 8 q = (q.1 + 8, ush q.2 8) from by rw [tzS, if_pos c]]
    exact tz_49 d h (q.1 + 8, ush q.2 8)
  · refine Rx_iload_n dJ6_numberOfTrailingZeros_0f7a4_34 rfl ?_
    refine Rx_sipush (256) dJ6_numberOfTrailingZeros_0f7a4_35 (by decide) ?_
    refine Rx_icmp_le_t 49 dJ6_numberOfTrailingZeros_0f7a4_38 (by decide) (Int32.not_lt.mp c) ?_
    rw [show tzS 256 8 q = q from by rw [tzS, if_neg c]]
    exact tz_49 d h q
theorem sp_tz (d : Nat) (h : Hp) (x : Int32) : Mx mJ6_numberOfTrailingZeros_0f7a4 d [.int x] h (some (.int (tzI x))) h := by
  refine Mx_of [_, _] (by decide +kernel) rfl rfl ?_
  unfold tzI
  refine Rx_iload_n dJ6_numberOfTrailingZeros_0f7a4_0 rfl ?_
  refine Rx_iconst (-1) dJ6_numberOfTrailingZeros_0f7a4_1 (by decide) ?_
  refine Rx_ixor dJ6_numberOfTrailingZeros_0f7a4_2 ?_
  refine Rx_iload_n dJ6_numberOfTrailingZeros_0f7a4_3 rfl ?_
  refine Rx_iconst (1) dJ6_numberOfTrailingZeros_0f7a4_4 (by decide) ?_
  refine Rx_isub dJ6_numberOfTrailingZeros_0f7a4_5 ?_
  refine Rx_iand dJ6_numberOfTrailingZeros_0f7a4_6 ?_
  refine Rx_istore_n [_, _] dJ6_numberOfTrailingZeros_0f7a4_7 rfl rfl rfl ?_
  generalize (x ^^^ (-1)) &&& (x - 1) = m
  unfold tzM
  by_cases c : 0 < m
  · rw [if_pos c]
    by_cases c2 : 65536 < m
    · refine Rx_iload_n dJ6_numberOfTrailingZeros_0f7a4_8 rfl ?_
      refine Rx_if_gt_t 17 dJ6_numberOfTrailingZeros_0f7a4_9 (by decide) c ?_
      refine Rx_iconst (1) dJ6_numberOfTrailingZeros_0f7a4_17 (by decide) ?_
      refine Rx_istore_n [_, _] dJ6_numberOfTrailingZeros_0f7a4_18 rfl rfl rfl ?_
      refine Rx_iload_n dJ6_numberOfTrailingZeros_0f7a4_19 rfl ?_
      refine Rx_ldcw dJ6_numberOfTrailingZeros_0f7a4_20 kcJ6_264 ?_
      refine Rx_icmp_le_f 34 dJ6_numberOfTrailingZeros_0f7a4_23 (by decide) (Int32.not_le.mpr c2) ?_
      refine Rx_iinc [_, _] (16) dJ6_numberOfTrailingZeros_0f7a4_26 rfl (by decide) rfl rfl rfl ?_
      refine Rx_iload_n dJ6_numberOfTrailingZeros_0f7a4_29 rfl ?_
      refine Rx_bipush (16) dJ6_numberOfTrailingZeros_0f7a4_30 (by decide) ?_
      refine Rx_iushr dJ6_numberOfTrailingZeros_0f7a4_32 ?_
      refine Rx_istore_n [_, _] dJ6_numberOfTrailingZeros_0f7a4_33 rfl rfl rfl ?_
      rw [show tzS 65536 16 (1, m) = (1 + 16, ush m 16) from by rw [tzS, if_pos c2]]
      exact tz_34 d h (1 + 16, ush m 16)
    · refine Rx_iload_n dJ6_numberOfTrailingZeros_0f7a4_8 rfl ?_
      refine Rx_if_gt_t 17 dJ6_numberOfTrailingZeros_0f7a4_9 (by decide) c ?_
      refine Rx_iconst (1) dJ6_numberOfTrailingZeros_0f7a4_17 (by decide) ?_
      refine Rx_istore_n [_, _] dJ6_numberOfTrailingZeros_0f7a4_18 rfl rfl rfl ?_
      refine Rx_iload_n dJ6_numberOfTrailingZeros_0f7a4_19 rfl ?_
      refine Rx_ldcw dJ6_numberOfTrailingZeros_0f7a4_20 kcJ6_264 ?_
      refine Rx_icmp_le_t 34 dJ6_numberOfTrailingZeros_0f7a4_23 (by decide) (Int32.not_lt.mp c2) ?_
      rw [show tzS 65536 16 (1, m) = (1, m) from by rw [tzS, if_neg c2]]
      exact tz_34 d h (1, m)
  · rw [if_neg c]
    refine Rx_iload_n dJ6_numberOfTrailingZeros_0f7a4_8 rfl ?_
    refine Rx_if_gt_f 17 dJ6_numberOfTrailingZeros_0f7a4_9 (by decide) c ?_
    refine Rx_iload_n dJ6_numberOfTrailingZeros_0f7a4_12 rfl ?_
    refine Rx_bipush (32) dJ6_numberOfTrailingZeros_0f7a4_13 (by decide) ?_
    refine Rx_iand dJ6_numberOfTrailingZeros_0f7a4_15 ?_
    exact Rx_iret dJ6_numberOfTrailingZeros_0f7a4_16 rfl
def tzL (x : Int64) : Int32 := if x.toInt32 = 0 then 32 + tzI (ushL x 32).toInt32 else tzI x.toInt32
theorem sp_tzL (d : Nat) (h : Hp) (x : Int64) : Mx mJ13_numberOfTrailingZeros_95d88 (d + 1) [.long x] h (some (.int (tzL x))) h := by
  refine Mx_of [_, _, _] (by decide +kernel) rfl rfl ?_
  unfold tzL
  by_cases c : x.toInt32 = 0
  · rw [if_pos c]
    refine Rx_lload_n dJ13_numberOfTrailingZeros_95d88_0 rfl ?_
    refine Rx_l2i dJ13_numberOfTrailingZeros_95d88_1 ?_
    refine Rx_istore_n [_, _, _] dJ13_numberOfTrailingZeros_95d88_2 rfl rfl rfl ?_
    refine Rx_iload_n dJ13_numberOfTrailingZeros_95d88_3 rfl ?_
    refine Rx_if_ne_f 21 dJ13_numberOfTrailingZeros_95d88_4 (by decide) c ?_
    refine Rx_bipush (32) dJ13_numberOfTrailingZeros_95d88_7 (by decide) ?_
    refine Rx_lload_n dJ13_numberOfTrailingZeros_95d88_9 rfl ?_
    refine Rx_bipush (32) dJ13_numberOfTrailingZeros_95d88_10 (by decide) ?_
    refine Rx_lushr dJ13_numberOfTrailingZeros_95d88_12 ?_
    refine Rx_l2i dJ13_numberOfTrailingZeros_95d88_13 ?_
    refine Rx_callS [_] dJ13_numberOfTrailingZeros_95d88_14 clJ13_311 (sp_tz d h _) rfl rfl rfl ?_
    refine Rx_iadd dJ13_numberOfTrailingZeros_95d88_17 ?_
    refine Rx_goto 25 dJ13_numberOfTrailingZeros_95d88_18 (by decide) ?_
    exact Rx_iret dJ13_numberOfTrailingZeros_95d88_25 rfl
  · rw [if_neg c]
    refine Rx_lload_n dJ13_numberOfTrailingZeros_95d88_0 rfl ?_
    refine Rx_l2i dJ13_numberOfTrailingZeros_95d88_1 ?_
    refine Rx_istore_n [_, _, _] dJ13_numberOfTrailingZeros_95d88_2 rfl rfl rfl ?_
    refine Rx_iload_n dJ13_numberOfTrailingZeros_95d88_3 rfl ?_
    refine Rx_if_ne_t 21 dJ13_numberOfTrailingZeros_95d88_4 (by decide) c ?_
    refine Rx_iload_n dJ13_numberOfTrailingZeros_95d88_21 rfl ?_
    refine Rx_callS [_] dJ13_numberOfTrailingZeros_95d88_22 clJ13_311 (sp_tz d h _) rfl rfl rfl ?_
    exact Rx_iret dJ13_numberOfTrailingZeros_95d88_25 rfl
/-- the least member of the words from i on -/
def lstW (f : Nat → Int64) : Nat → Nat → Int32
  | 0, _ => -1
  | k + 1, i => if f i = 0 then lstW f k (i + 1) else 64 * nI i + tzL (f i)
theorem least_loop (d : Nat) {h : Hp} {f : Nat → Int64} (x : MI h f) : ∀ (k i : Nat), i + k = 16 → Rx mX5_least (d + 2) 2 [.ref 32, .int (nI i)] [] h (some (.int (lstW f k i))) h := by
  intro k
  induction k with
  | zero =>
    intro i hi
    have e : i = 16 := by omega
    subst e
    refine Rx_iload_n dX5_least_2 rfl ?_
    refine Rx_bipush (16) dX5_least_3 (by decide) ?_
    refine Rx_icmp_ge_t 40 dX5_least_5 (by decide) (nI_le (Nat.le_refl _) (by decide)) ?_
    refine Rx_iconst (-1) dX5_least_40 (by decide) ?_
    exact Rx_iret dX5_least_41 rfl
  | succ k ih =>
    intro i hi
    unfold lstW
    by_cases c : f i = 0
    · rw [if_pos c]
      refine Rx_iload_n dX5_least_2 rfl ?_
      refine Rx_bipush (16) dX5_least_3 (by decide) ?_
      refine Rx_icmp_ge_f 40 dX5_least_5 (by decide) (nI_ge (b := 16) (by omega) (by decide)) ?_
      refine Rx_aload_n dX5_least_8 rfl ?_
      refine Rx_get dX5_least_9 flX5_9 x.1 rfl ?_
      refine Rx_iload_n dX5_least_12 rfl ?_
      refine Rx_lald i dX5_least_13 x.2.1 (by omega) (by decide) rfl ?_
      refine Rx_lconst (0) dX5_least_14 (by decide) ?_
      refine Rx_lcmp dX5_least_15 ?_
      refine Rx_if_eq_t 34 dX5_least_16 (by decide) (by rw [lg_cmp_eq]; exact c) ?_
      refine Rx_iinc [_, _] (1) dX5_least_34 rfl (by decide) rfl rfl rfl ?_
      refine Rx_goto 2 dX5_least_37 (by decide) ?_
      rw [nI_1]
      exact ih (i + 1) (by omega)
    · rw [if_neg c]
      refine Rx_iload_n dX5_least_2 rfl ?_
      refine Rx_bipush (16) dX5_least_3 (by decide) ?_
      refine Rx_icmp_ge_f 40 dX5_least_5 (by decide) (nI_ge (b := 16) (by omega) (by decide)) ?_
      refine Rx_aload_n dX5_least_8 rfl ?_
      refine Rx_get dX5_least_9 flX5_9 x.1 rfl ?_
      refine Rx_iload_n dX5_least_12 rfl ?_
      refine Rx_lald i dX5_least_13 x.2.1 (by omega) (by decide) rfl ?_
      refine Rx_lconst (0) dX5_least_14 (by decide) ?_
      refine Rx_lcmp dX5_least_15 ?_
      refine Rx_if_eq_f 34 dX5_least_16 (by decide) (fun z => c ((lg_cmp_eq _ _).mp z)) ?_
      refine Rx_bipush (64) dX5_least_19 (by decide) ?_
      refine Rx_iload_n dX5_least_21 rfl ?_
      refine Rx_imul dX5_least_22 ?_
      refine Rx_aload_n dX5_least_23 rfl ?_
      refine Rx_get dX5_least_24 flX5_9 x.1 rfl ?_
      refine Rx_iload_n dX5_least_27 rfl ?_
      refine Rx_lald i dX5_least_28 x.2.1 (by omega) (by decide) rfl ?_
      refine Rx_callS [_] dX5_least_29 clX5_64 (sp_tzL d h (f i)) rfl rfl rfl ?_
      refine Rx_iadd dX5_least_32 ?_
      exact Rx_iret dX5_least_33 rfl
theorem sp_least (d : Nat) {h : Hp} {f : Nat → Int64} (x : MI h f) : Mx mX5_least (d + 2) [.ref 32] h (some (.int (lstW f 16 0))) h := by
  refine Mx_of [_, _] (by decide +kernel) rfl rfl ?_
  refine Rx_iconst (0) dX5_least_0 (by decide) ?_
  refine Rx_istore_n [_, _] dX5_least_1 rfl rfl rfl ?_
  exact least_loop d x 16 0 rfl
