/-! the constructors -/
section CG
variable {g l : Hp} {e e' x : va_E} {n k : Nat}
theorem cG0 (hg : g.length = n) : (g ++ e :: l)[n]? = some e := by subst hg; simp
theorem cG1 (hg : g.length = n) : (g ++ e :: l)[n + (k + 1)]? = l[k]? := by
  subst hg
  rw [List.getElem?_append_right (by omega)]
  simp
theorem cS0 (hg : g.length = n) : (g ++ e :: l).set n e' = g ++ e' :: l := by subst hg; simp
theorem cS1 (hg : g.length = n) : (g ++ e :: l).set (n + (k + 1)) e' = g ++ e :: l.set k e' := by
  subst hg
  rw [List.set_append_right _ _ (by omega)]
  simp
theorem cP0 : (g ++ e :: l) ++ [x] = g ++ e :: (l ++ [x]) := by simp
theorem cL0 (hg : g.length = n) : (g ++ e :: l).length = n + (l.length + 1) := by subst hg; simp
end CG
abbrev z32 : Nat → Int32 := fun _ => 0
abbrev z64 : Nat → Int64 := fun _ => 0
abbrev o32 : Nat → Int32 := fillf z32 22 1
section IN
variable {g : Hp} {n : Nat}
theorem ci_state (d : Nat) (hg : g.length = n) : Mx mX6_init (d + 1) [.ref n] (g ++ [.inr (6, [.null, .int 0, .int 0, .null])]) none (g ++ [obS (n + 1) 0 0 (n + 2), aI 16 z32, aI 22 o32]) := by
  refine Mx_of [_] (by decide +kernel) rfl rfl ?_
  refine Rx_aload_n dX6_init_0 rfl ?_
  refine Rx_objInit dX6_init_1 clX6_3 oi_1 oi_2 rfl ?_
  refine Rx_aload_n dX6_init_4 rfl ?_
  refine Rx_bipush (16) dX6_init_5 (by decide) ?_
  refine Rx_newI 16 dX6_init_7 ac_int rfl (by decide) ?_
  rw [cL0 hg, cP0 (g := g)]
  refine Rx_putF [_, _, _, _] dX6_init_9 fpX6_9 rfl (cG0 hg) rfl (okv_a _ _) rfl ?_
  rw [cS0 hg]
  refine Rx_aload_n dX6_init_12 rfl ?_
  refine Rx_iconst (0) dX6_init_13 (by decide) ?_
  refine Rx_put [_, _, _, _] dX6_init_14 fpX6_15 (cG0 hg) rfl (okv_i _) rfl ?_
  rw [cS0 hg]
  refine Rx_aload_n dX6_init_17 rfl ?_
  refine Rx_iconst (0) dX6_init_18 (by decide) ?_
  refine Rx_put [_, _, _, _] dX6_init_19 fpX6_19 (cG0 hg) rfl (okv_i _) rfl ?_
  rw [cS0 hg]
  refine Rx_aload_n dX6_init_22 rfl ?_
  refine Rx_bipush (22) dX6_init_23 (by decide) ?_
  refine Rx_newI 22 dX6_init_25 ac_int rfl (by decide) ?_
  rw [cL0 hg, cP0 (g := g)]
  refine Rx_putF [_, _, _, _] dX6_init_27 fpX6_22 rfl (cG0 hg) rfl (okv_a _ _) rfl ?_
  rw [cS0 hg]
  have k2 : (g ++ obS (n + 1) 0 0 (n + 2) :: [aI 16 z32, aI 22 z32])[n + 2]? = some (aI 22 z32) := cG1 (k := 1) hg
  have q := sp_fill d (1 : Int32) k2 (by decide)
  have e : (g ++ obS (n + 1) 0 0 (n + 2) :: [aI 16 z32, aI 22 z32]).set (n + 2) (aI 22 o32) = g ++ [obS (n + 1) 0 0 (n + 2), aI 16 z32, aI 22 o32] := cS1 (k := 1) hg
  rw [e] at q
  refine Rx_aload_n dX6_init_30 rfl ?_
  refine Rx_get dX6_init_31 flX6_22 (cG0 hg) rfl ?_
  refine Rx_iconst (1) dX6_init_34 (by decide) ?_
  refine Rx_callSv [_, _] dX6_init_35 clX6_25 q rfl rfl rfl ?_
  exact Rx_vret dX6_init_38 rfl
theorem ci_text (d : Nat) (hg : g.length = n) : Mx mX2_init (d + 1) [.ref n] (g ++ [.inr (2, [.null, .int 0])]) none (g ++ [.inr (2, [.ref (n + 1), .int 0]), aI 150 z32]) := by
  refine Mx_of [_] (by decide +kernel) rfl rfl ?_
  refine Rx_aload_n dX2_init_0 rfl ?_
  refine Rx_objInit dX2_init_1 clX2_3 oi_1 oi_2 rfl ?_
  refine Rx_aload_n dX2_init_4 rfl ?_
  refine Rx_sipush (150) dX2_init_5 (by decide) ?_
  refine Rx_newI 150 dX2_init_8 ac_int rfl (by decide) ?_
  rw [cL0 hg, cP0 (g := g)]
  refine Rx_putF [_, _] dX2_init_10 fpX2_9 rfl (cG0 hg) rfl (okv_a _ _) rfl ?_
  rw [cS0 hg]
  refine Rx_aload_n dX2_init_13 rfl ?_
  refine Rx_iconst (0) dX2_init_14 (by decide) ?_
  refine Rx_put [_, _] dX2_init_15 fpX2_15 (cG0 hg) rfl (okv_i _) rfl ?_
  rw [cS0 hg]
  exact Rx_vret dX2_init_18 rfl
theorem ci_reader (d : Nat) (hg : g.length = n) : Mx mX0_init (d + 1) [.ref n] (g ++ [.inr (0, [.null, .int 0, .int 0, .int 0, .int 0])]) none (g ++ [.inr (0, [.ref (n + 1), .int 0, .int 0, .int 0, .int (-1)]), aI 16 z32]) := by
  refine Mx_of [_] (by decide +kernel) rfl rfl ?_
  refine Rx_aload_n dX0_init_0 rfl ?_
  refine Rx_objInit dX0_init_1 clX0_3 oi_1 oi_2 rfl ?_
  refine Rx_aload_n dX0_init_4 rfl ?_
  refine Rx_bipush (16) dX0_init_5 (by decide) ?_
  refine Rx_newI 16 dX0_init_7 ac_int rfl (by decide) ?_
  rw [cL0 hg, cP0 (g := g)]
  refine Rx_putF [_, _, _, _, _] dX0_init_9 fpX0_9 rfl (cG0 hg) rfl (okv_a _ _) rfl ?_
  rw [cS0 hg]
  refine Rx_aload_n dX0_init_12 rfl ?_
  refine Rx_iconst (0) dX0_init_13 (by decide) ?_
  refine Rx_put [_, _, _, _, _] dX0_init_14 fpX0_15 (cG0 hg) rfl (okv_i _) rfl ?_
  rw [cS0 hg]
  refine Rx_aload_n dX0_init_17 rfl ?_
  refine Rx_iconst (0) dX0_init_18 (by decide) ?_
  refine Rx_put [_, _, _, _, _] dX0_init_19 fpX0_19 (cG0 hg) rfl (okv_i _) rfl ?_
  rw [cS0 hg]
  refine Rx_aload_n dX0_init_22 rfl ?_
  refine Rx_iconst (0) dX0_init_23 (by decide) ?_
  refine Rx_put [_, _, _, _, _] dX0_init_24 fpX0_22 (cG0 hg) rfl (okv_i _) rfl ?_
  rw [cS0 hg]
  refine Rx_aload_n dX0_init_27 rfl ?_
  refine Rx_iconst (-1) dX0_init_28 (by decide) ?_
  refine Rx_put [_, _, _, _, _] dX0_init_29 fpX0_25 (cG0 hg) rfl (okv_i _) rfl ?_
  rw [cS0 hg]
  exact Rx_vret dX0_init_32 rfl
theorem ci_models (d : Nat) (hg : g.length = n) : Mx mX5_init (d + 1) [.ref n] (g ++ [.inr (5, [.null, .null])]) none (g ++ [.inr (5, [.ref (n + 1), .ref (n + 2)]), aL 16 z64, aL 16 z64]) := by
  refine Mx_of [_] (by decide +kernel) rfl rfl ?_
  refine Rx_aload_n dX5_init_0 rfl ?_
  refine Rx_objInit dX5_init_1 clX5_3 oi_1 oi_2 rfl ?_
  refine Rx_aload_n dX5_init_4 rfl ?_
  refine Rx_bipush (16) dX5_init_5 (by decide) ?_
  refine Rx_newL 16 dX5_init_7 ac_long rfl (by decide) ?_
  rw [cL0 hg, cP0 (g := g)]
  refine Rx_putF [_, _] dX5_init_9 fpX5_9 rfl (cG0 hg) rfl (okv_a _ _) rfl ?_
  rw [cS0 hg]
  refine Rx_aload_n dX5_init_12 rfl ?_
  refine Rx_bipush (16) dX5_init_13 (by decide) ?_
  refine Rx_newL 16 dX5_init_15 ac_long rfl (by decide) ?_
  rw [cL0 hg, cP0 (g := g)]
  refine Rx_putF [_, _] dX5_init_17 fpX5_15 rfl (cG0 hg) rfl (okv_a _ _) rfl ?_
  rw [cS0 hg]
  exact Rx_vret dX5_init_20 rfl
theorem ci_weighted (d : Nat) (hg : g.length = n) : Mx mX7_init (d + 1) [.ref n] (g ++ [.inr (7, [.null, .null])]) none (g ++ [.inr (7, [.ref (n + 1), .ref (n + 2)]), aL 32 z64, aL 32 z64]) := by
  refine Mx_of [_] (by decide +kernel) rfl rfl ?_
  refine Rx_aload_n dX7_init_0 rfl ?_
  refine Rx_objInit dX7_init_1 clX7_5 oi_1 oi_2 rfl ?_
  refine Rx_aload_n dX7_init_4 rfl ?_
  refine Rx_bipush (32) dX7_init_5 (by decide) ?_
  refine Rx_newL 32 dX7_init_7 ac_long rfl (by decide) ?_
  rw [cL0 hg, cP0 (g := g)]
  refine Rx_putF [_, _] dX7_init_9 fpX7_11 rfl (cG0 hg) rfl (okv_a _ _) rfl ?_
  rw [cS0 hg]
  refine Rx_aload_n dX7_init_12 rfl ?_
  refine Rx_bipush (32) dX7_init_13 (by decide) ?_
  refine Rx_newL 32 dX7_init_15 ac_long rfl (by decide) ?_
  rw [cL0 hg, cP0 (g := g)]
  refine Rx_putF [_, _] dX7_init_17 fpX7_15 rfl (cG0 hg) rfl (okv_a _ _) rfl ?_
  rw [cS0 hg]
  exact Rx_vret dX7_init_20 rfl
theorem ci_explainer (d : Nat) (hg : g.length = n) : Mx mX1_init (d + 1) [.ref n] (g ++ [.inr (1, [.null, .null, .null, .int 0, .int 0, .int 0])]) none (g ++ [.inr (1, [.ref (n + 1), .ref (n + 2), .ref (n + 3), .int 0, .int (-1), .int (-1)]), aL 16 z64, aL 16 z64, aI 3 z32]) := by
  refine Mx_of [_] (by decide +kernel) rfl rfl ?_
  refine Rx_aload_n dX1_init_0 rfl ?_
  refine Rx_objInit dX1_init_1 clX1_3 oi_1 oi_2 rfl ?_
  refine Rx_aload_n dX1_init_4 rfl ?_
  refine Rx_bipush (16) dX1_init_5 (by decide) ?_
  refine Rx_newL 16 dX1_init_7 ac_long rfl (by decide) ?_
  rw [cL0 hg, cP0 (g := g)]
  refine Rx_putF [_, _, _, _, _, _] dX1_init_9 fpX1_9 rfl (cG0 hg) rfl (okv_a _ _) rfl ?_
  rw [cS0 hg]
  refine Rx_aload_n dX1_init_12 rfl ?_
  refine Rx_bipush (16) dX1_init_13 (by decide) ?_
  refine Rx_newL 16 dX1_init_15 ac_long rfl (by decide) ?_
  rw [cL0 hg, cP0 (g := g)]
  refine Rx_putF [_, _, _, _, _, _] dX1_init_17 fpX1_15 rfl (cG0 hg) rfl (okv_a _ _) rfl ?_
  rw [cS0 hg]
  refine Rx_aload_n dX1_init_20 rfl ?_
  refine Rx_iconst (3) dX1_init_21 (by decide) ?_
  refine Rx_newI 3 dX1_init_22 ac_int rfl (by decide) ?_
  rw [cL0 hg, cP0 (g := g)]
  refine Rx_putF [_, _, _, _, _, _] dX1_init_24 fpX1_18 rfl (cG0 hg) rfl (okv_a _ _) rfl ?_
  rw [cS0 hg]
  refine Rx_aload_n dX1_init_27 rfl ?_
  refine Rx_iconst (0) dX1_init_28 (by decide) ?_
  refine Rx_put [_, _, _, _, _, _] dX1_init_29 fpX1_22 (cG0 hg) rfl (okv_i _) rfl ?_
  rw [cS0 hg]
  refine Rx_aload_n dX1_init_32 rfl ?_
  refine Rx_iconst (-1) dX1_init_33 (by decide) ?_
  refine Rx_put [_, _, _, _, _, _] dX1_init_34 fpX1_26 (cG0 hg) rfl (okv_i _) rfl ?_
  rw [cS0 hg]
  refine Rx_aload_n dX1_init_37 rfl ?_
  refine Rx_iconst (-1) dX1_init_38 (by decide) ?_
  refine Rx_put [_, _, _, _, _, _] dX1_init_39 fpX1_29 (cG0 hg) rfl (okv_i _) rfl ?_
  rw [cS0 hg]
  exact Rx_vret dX1_init_42 rfl
theorem ci_graph (d : Nat) (hg : g.length = n) : Mx mX3_init (d + 1) [.ref n] (g ++ [.inr (3, [.null, .null, .null, .null, .null, .null, .int 0, .int 0, .int 0, .int 0, .int 0, .int 0, .int 0])]) none (g ++ [.inr (3, [.ref (n + 1), .ref (n + 2), .ref (n + 3), .ref (n + 4), .ref (n + 5), .ref (n + 6), .int 0, .int 0, .int 0, .int 0, .int 0, .int 0, .int 0]), aI 176 z32, aI 64 z32, aI 1024 z32, aI 64 z32, aI 64 z32, aI 64 z32]) := by
  refine Mx_of [_] (by decide +kernel) rfl rfl ?_
  refine Rx_aload_n dX3_init_0 rfl ?_
  refine Rx_objInit dX3_init_1 clX3_3 oi_1 oi_2 rfl ?_
  refine Rx_aload_n dX3_init_4 rfl ?_
  refine Rx_sipush (176) dX3_init_5 (by decide) ?_
  refine Rx_newI 176 dX3_init_8 ac_int rfl (by decide) ?_
  rw [cL0 hg, cP0 (g := g)]
  refine Rx_putF [_, _, _, _, _, _, _, _, _, _, _, _, _] dX3_init_10 fpX3_11 rfl (cG0 hg) rfl (okv_a _ _) rfl ?_
  rw [cS0 hg]
  refine Rx_aload_n dX3_init_13 rfl ?_
  refine Rx_bipush (64) dX3_init_14 (by decide) ?_
  refine Rx_newI 64 dX3_init_16 ac_int rfl (by decide) ?_
  rw [cL0 hg, cP0 (g := g)]
  refine Rx_putF [_, _, _, _, _, _, _, _, _, _, _, _, _] dX3_init_18 fpX3_15 rfl (cG0 hg) rfl (okv_a _ _) rfl ?_
  rw [cS0 hg]
  refine Rx_aload_n dX3_init_21 rfl ?_
  refine Rx_sipush (1024) dX3_init_22 (by decide) ?_
  refine Rx_newI 1024 dX3_init_25 ac_int rfl (by decide) ?_
  rw [cL0 hg, cP0 (g := g)]
  refine Rx_put [_, _, _, _, _, _, _, _, _, _, _, _, _] dX3_init_27 fpX3_18 (cG0 hg) rfl (okv_a _ _) rfl ?_
  rw [cS0 hg]
  refine Rx_aload_n dX3_init_30 rfl ?_
  refine Rx_bipush (64) dX3_init_31 (by decide) ?_
  refine Rx_newI 64 dX3_init_33 ac_int rfl (by decide) ?_
  rw [cL0 hg, cP0 (g := g)]
  refine Rx_put [_, _, _, _, _, _, _, _, _, _, _, _, _] dX3_init_35 fpX3_21 (cG0 hg) rfl (okv_a _ _) rfl ?_
  rw [cS0 hg]
  refine Rx_aload_n dX3_init_38 rfl ?_
  refine Rx_bipush (64) dX3_init_39 (by decide) ?_
  refine Rx_newI 64 dX3_init_41 ac_int rfl (by decide) ?_
  rw [cL0 hg, cP0 (g := g)]
  refine Rx_put [_, _, _, _, _, _, _, _, _, _, _, _, _] dX3_init_43 fpX3_24 (cG0 hg) rfl (okv_a _ _) rfl ?_
  rw [cS0 hg]
  refine Rx_aload_n dX3_init_46 rfl ?_
  refine Rx_bipush (64) dX3_init_47 (by decide) ?_
  refine Rx_newI 64 dX3_init_49 ac_int rfl (by decide) ?_
  rw [cL0 hg, cP0 (g := g)]
  refine Rx_put [_, _, _, _, _, _, _, _, _, _, _, _, _] dX3_init_51 fpX3_27 (cG0 hg) rfl (okv_a _ _) rfl ?_
  rw [cS0 hg]
  exact Rx_vret dX3_init_54 rfl
end IN
section IN
variable {g : Hp}
abbrev obH : va_E := .inr (4, [.ref 5, .int 0])
def hsvP (k : Nat) : Nat → Option Nat := fun j => if j < k then some (6 + 3 * j) else none
theorem hsvP_s (k : Nat) : va_up (hsvP k) k (some (6 + 3 * k)) = hsvP (k + 1) := by
  funext j
  unfold va_up hsvP
  by_cases c : j = k
  · rw [if_pos c, if_pos (by omega), c]
  · rw [if_neg c]
    by_cases c2 : j < k
    · rw [if_pos c2, if_pos (by omega)]
    · rw [if_neg c2, if_neg (by omega)]
abbrev st3 (a : Nat) : Hp := [obS (a + 1) 0 0 (a + 2), aI 16 z32, aI 22 o32]
def st5 : Nat → Hp
  | 0 => []
  | k + 1 => st5 k ++ st3 (6 + 3 * k)
theorem st5_len : ∀ k, (st5 k).length = 3 * k
  | 0 => rfl
  | k + 1 => by
    show (st5 k ++ st3 (6 + 3 * k)).length = _
    rw [List.length_append, st5_len k]
    simp
    omega
theorem ci_history (d : Nat) (hg : g.length = 4) : Mx mX4_init (d + 2) [.ref 4] (g ++ [.inr (4, [.null, .int 0])]) none (g ++ obH :: aS 5 (hsvP 5) :: st5 5) := by
  refine Mx_of [_, _] (by decide +kernel) rfl rfl ?_
  refine Rx_aload_n dX4_init_0 rfl ?_
  refine Rx_objInit dX4_init_1 clX4_3 oi_1 oi_2 rfl ?_
  refine Rx_aload_n dX4_init_4 rfl ?_
  refine Rx_iconst (5) dX4_init_5 (by decide) ?_
  refine Rx_newS 5 dX4_init_6 alX4_9 rfl (by decide) ?_
  rw [cL0 hg, cP0 (g := g)]
  refine Rx_putF [_, _] dX4_init_9 fpX4_11 rfl (cG0 hg) rfl (okv_a _ _) rfl ?_
  rw [cS0 hg]
  have hG : ∀ k, (g ++ obH :: aS 5 (hsvP k) :: st5 k).length = 6 + 3 * k := fun k => by
    rw [List.length_append, hg, List.length_cons, List.length_cons, st5_len]
    omega
  have loop : ∀ (j k : Nat), k + j = 5 → Rx mX4_init (d + 2) 14 [.ref 4, .int (nI k)] [] (g ++ obH :: aS 5 (hsvP k) :: st5 k) none (g ++ obH :: aS 5 (hsvP 5) :: st5 5) := by
    intro j
    induction j with
    | zero =>
      intro k hk
      have e : k = 5 := by omega
      subst e
      refine Rx_iload_n dX4_init_14 rfl ?_
      refine Rx_iconst (5) dX4_init_15 (by decide) ?_
      refine Rx_icmp_ge_t 38 dX4_init_16 (by decide) (nI_le (a := 5) (b := 5) (Nat.le_refl _) (by decide)) ?_
      refine Rx_aload_n dX4_init_38 rfl ?_
      refine Rx_iconst (0) dX4_init_39 (by decide) ?_
      refine Rx_put [_, _] dX4_init_40 fpX4_18 (cG0 hg) rfl (okv_i _) rfl ?_
      rw [cS0 hg]
      exact Rx_vret dX4_init_43 rfl
    | succ j ih =>
      intro k hk
      have q := ci_state d (hG k)
      have e : (g ++ obH :: aS 5 (hsvP k) :: st5 k) ++ st3 (6 + 3 * k) = g ++ obH :: aS 5 (hsvP k) :: st5 (k + 1) := by
        show _ = g ++ obH :: aS 5 (hsvP k) :: (st5 k ++ st3 (6 + 3 * k))
        simp
      replace q : Mx _ _ _ _ _ ((g ++ obH :: aS 5 (hsvP k) :: st5 k) ++ st3 (6 + 3 * k)) := q
      rw [e] at q
      have k5 : (g ++ obH :: aS 5 (hsvP k) :: st5 (k + 1))[5]? = some (aS 5 (hsvP k)) := cG1 (n := 4) (k := 0) hg
      have ks : (g ++ obH :: aS 5 (hsvP k) :: st5 (k + 1))[6 + 3 * k]? = some (obS (6 + 3 * k + 1) 0 0 (6 + 3 * k + 2)) := by
        rw [← e]
        exact cG0 (hG k)
      have e2 : (g ++ obH :: aS 5 (hsvP k) :: st5 (k + 1)).set 5 (aS 5 (hsvP (k + 1))) = g ++ obH :: aS 5 (hsvP (k + 1)) :: st5 (k + 1) := cS1 (n := 4) (k := 0) hg
      refine Rx_iload_n dX4_init_14 rfl ?_
      refine Rx_iconst (5) dX4_init_15 (by decide) ?_
      refine Rx_icmp_ge_f 38 dX4_init_16 (by decide) (nI_ge (a := k) (b := 5) (by omega) (by decide)) ?_
      refine Rx_aload_n dX4_init_19 rfl ?_
      refine Rx_get dX4_init_20 flX4_11 (cG0 hg) rfl ?_
      refine Rx_iload_n dX4_init_23 rfl ?_
      refine Rx_new dX4_init_24 nlX4_9 ?_
      rw [hG k]
      refine Rx_dup dX4_init_27 rfl ?_
      refine Rx_callI [] dX4_init_28 clX4_17 q rfl rfl rfl ?_
      refine Rx_aast k dX4_init_31 k5 (by omega) (by decide) rfl ks ?_
      rw [hsvP_s, e2]
      refine Rx_iinc [_, _] (1) dX4_init_32 rfl (by decide) rfl rfl rfl ?_
      refine Rx_goto 14 dX4_init_35 (by decide) ?_
      rw [nI_1]
      exact ih (k + 1) (by omega)
  refine Rx_iconst (0) dX4_init_12 (by decide) ?_
  refine Rx_istore_n [_, _] dX4_init_13 rfl rfl rfl ?_
  exact loop 5 0 rfl
end IN
