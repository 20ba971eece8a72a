/-! the reference's methods: the formula, on -/
section RF
variable {h : Hp} {S V er tx : Nat → Int32} {n sm tn : Nat}
theorem rx_clauses (d : Nat) (x : RI h S V er tx n sm tn) : Mq mX9_clauses d [.ref 43] h (qR h S V er tx n sm tn (.int (nI n))) := by
  obtain ⟨ic, nm, rm, hf, ht, rt, mm, il, sp, rdm, k43, k44, s0, n16, sv, sm5, k46, -⟩ := x.k43
  refine Mq_of [_] (by decide +kernel) rfl rfl ?_
  refine Rq_aload_n dX9_clauses_0 rfl ?_
  refine Rq_get dX9_clauses_1 flX9_7 k43 rfl ?_
  refine Rq_iconst (0) dX9_clauses_4 (by decide) ?_
  refine Rq_iald 0 dX9_clauses_5 k44 (by decide) (by decide) rfl ?_
  refine Rq_iret dX9_clauses_6 rfl ?_
  exact ⟨by rw [s0], Fr.rfl', x⟩
theorem rx_size_oor (d : Nat) {i : Int32} (x : RI h S V er tx n sm tn) (hc : ¬ (0 ≤ i ∧ i < nI n)) : Mq mX9_clauseSize (d + 2) [.ref 43, .int i] h (qR h S V (upd er 0 (er 0 + 1)) tx n sm tn (.int (-2))) := by
  have y := x.err (upd er 0 (er 0 + 1))
  obtain ⟨ic, nm, rm, hf, ht, rt, mm, il, sp, rdm, k43, k44, s0, n16, sv, sm5, k46, -⟩ := x.k43
  refine Mq_of [_, _] (by decide +kernel) rfl rfl ?_
  refine Rq_aload_n dX9_clauseSize_0 rfl ?_
  refine Rq_iload_n dX9_clauseSize_1 rfl ?_
  refine Rq_callV [_] dX9_clauseSize_2 clX9_97 rfl k43 (rp_isClause_f d k43 k44 s0 n16 hc) rfl rfl rfl ?_
  refine Rq_if_eq_t 22 dX9_clauseSize_5 (by decide) rfl ?_
  refine Rq_aload_n dX9_clauseSize_22 rfl ?_
  refine Rq_bipush (-2) dX9_clauseSize_23 (by decide) ?_
  refine Rq_callV [_] dX9_clauseSize_25 clX9_84 rfl k43 (rp_err (d + 1) 0 (by decide) (-2) (by decide) k43 k46) rfl rfl rfl ?_
  refine Rq_iret dX9_clauseSize_28 rfl ?_
  exact ⟨rfl, Fr.set (by decide), y⟩
theorem nI_ps {i : Nat} (h : i < 2 ^ 31) : 0 ≤ nI i := nI_le (a := 0) (Nat.zero_le _) h
theorem rx_size (d : Nat) {i : Nat} (x : RI h S V er tx n sm tn) (hc : i < n) : Mq mX9_clauseSize (d + 2) [.ref 43, .int (nI i)] h (qR h S V er tx n sm tn (.int (nI (pcN (S (1 + i)))))) := by
  obtain ⟨ic, nm, rm, hf, ht, rt, mm, il, sp, rdm, k43, k44, s0, n16, sv, sm5, k46, -⟩ := x.k43
  refine Mq_of [_, _] (by decide +kernel) rfl rfl ?_
  refine Rq_aload_n dX9_clauseSize_0 rfl ?_
  refine Rq_iload_n dX9_clauseSize_1 rfl ?_
  refine Rq_callV [_] dX9_clauseSize_2 clX9_97 rfl k43 (rp_isClause_t d k43 k44 s0 n16 (nI_ps (i := i) (by omega)) (nI_lt hc (by omega))) rfl rfl rfl ?_
  refine Rq_if_eq_f 22 dX9_clauseSize_5 (by decide) (by decide) ?_
  refine Rq_aload_n dX9_clauseSize_8 rfl ?_
  refine Rq_get dX9_clauseSize_9 flX9_7 k43 rfl ?_
  refine Rq_iconst (1) dX9_clauseSize_12 (by decide) ?_
  refine Rq_iload_n dX9_clauseSize_13 rfl ?_
  refine Rq_iadd dX9_clauseSize_14 ?_
  refine Rq_iald (1 + i) dX9_clauseSize_15 k44 (by omega) (by decide) (nI_add 1 i) ?_
  refine Rq_callS [_] dX9_clauseSize_16 clX9_101 (rp_ones (d + 1) h _) rfl rfl rfl ?_
  refine Rq_goto 28 dX9_clauseSize_19 (by decide) ?_
  refine Rq_iret dX9_clauseSize_28 rfl ?_
  exact ⟨rfl, Fr.rfl', x⟩
theorem rx_rem_oor (d : Nat) {i : Int32} (x : RI h S V er tx n sm tn) (hc : ¬ (0 ≤ i ∧ i < nI n)) : Mq mX9_removeClause (d + 2) [.ref 43, .int i] h (qR h S V (upd er 0 (er 0 + 1)) tx n sm tn (.int (-2))) := by
  have y := x.err (upd er 0 (er 0 + 1))
  obtain ⟨ic, nm, rm, hf, ht, rt, mm, il, sp, rdm, k43, k44, s0, n16, sv, sm5, k46, -⟩ := x.k43
  refine Mq_of [_, _, _] (by decide +kernel) rfl rfl ?_
  refine Rq_aload_n dX9_removeClause_0 rfl ?_
  refine Rq_iload_n dX9_removeClause_1 rfl ?_
  refine Rq_callV [_] dX9_removeClause_2 clX9_97 rfl k43 (rp_isClause_f d k43 k44 s0 n16 hc) rfl rfl rfl ?_
  refine Rq_if_ne_f 15 dX9_removeClause_5 (by decide) rfl ?_
  refine Rq_aload_n dX9_removeClause_8 rfl ?_
  refine Rq_bipush (-2) dX9_removeClause_9 (by decide) ?_
  refine Rq_callV [_] dX9_removeClause_11 clX9_84 rfl k43 (rp_err (d + 1) 0 (by decide) (-2) (by decide) k43 k46) rfl rfl rfl ?_
  refine Rq_iret dX9_removeClause_14 rfl ?_
  exact ⟨rfl, Fr.set (by decide), y⟩
def delR (S : Nat → Int32) (i n k : Nat) : Nat → Int32 := fun j => if j = 0 then nI (n - 1) else if 1 + i ≤ j ∧ j < 1 + k then S (j + 1) else S j
theorem delR_step {i k : Nat} : upd (delR S i n (i + k)) (1 + (i + k)) (S (1 + (i + k) + 1)) = delR S i n (i + (k + 1)) := by
  funext j
  unfold upd delR
  by_cases c : j = 1 + (i + k)
  · rw [if_pos c, if_neg (by omega), if_pos (by omega), c]
  · rw [if_neg c]
    by_cases c0 : j = 0
    · rw [if_pos c0, if_pos c0]
    · rw [if_neg c0, if_neg c0]
      by_cases c1 : 1 + i ≤ j ∧ j < 1 + (i + k)
      · rw [if_pos c1, if_pos (by omega)]
      · rw [if_neg c1, if_neg (by omega)]
theorem rx_rem (d : Nat) {i : Nat} (x : RI h S V er tx n sm tn) (hc : i < n) : Mq mX9_removeClause (d + 2) [.ref 43, .int (nI i)] h (qR h (delR S i n (n - 1)) (svV sm V S) er tx (n - 1) (min sm 4 + 1) tn (.int (nI (n - 1)))) := by
  have x0 := x
  obtain ⟨ic, nm, rm, hf, ht, rt, mm, il, sp, rdm, k43, k44, s0, n16, sv, sm5, k46, k47, tl, ⟨rc, k61⟩, k45, vo⟩ := x.k43
  refine Mq_of [_, _, _] (by decide +kernel) rfl rfl ?_
  refine Rq_aload_n dX9_removeClause_0 rfl ?_
  refine Rq_iload_n dX9_removeClause_1 rfl ?_
  refine Rq_callV [_] dX9_removeClause_2 clX9_97 rfl k43 (rp_isClause_t d k43 k44 s0 n16 (nI_ps (i := i) (by omega)) (nI_lt hc (by omega))) rfl rfl rfl ?_
  refine Rq_if_ne_t 15 dX9_removeClause_5 (by decide) (by decide) ?_
  refine Rq_aload_n dX9_removeClause_15 rfl ?_
  refine Rq_callVq [] dX9_removeClause_16 clX9_94 rfl k43 (ri_save (d + 1) x k43) rfl rfl rfl (fun rv h1 hq => ?_)
  obtain ⟨rfl, F, j44, j43, j45, jo⟩ := hq
  have e0 : upd S 0 (S 0 - 1) = delR S i n (i + 0) := by
    funext j
    unfold upd delR
    by_cases c0 : j = 0
    · rw [if_pos c0, if_pos c0, s0]
      obtain ⟨m, rfl⟩ : ∃ m, n = m + 1 := ⟨n - 1, by omega⟩
      rw [nI_pred]
      rfl
    · rw [if_neg c0, if_neg c0, if_neg (by omega)]
  have loop : ∀ (j k : Nat), i + k + j = n - 1 → Rq mX9_removeClause (d + 2) 31 [.ref 43, .int (nI i), .int (nI (i + k))] [] (h1.set 44 (aI 39 (delR S i n (i + k)))) (qR h (delR S i n (n - 1)) (svV sm V S) er tx (n - 1) (min sm 4 + 1) tn (.int (nI (n - 1)))) := by
    intro j
    induction j with
    | zero =>
      intro k hk
      rw [show i + k = n - 1 by omega]
      have l43 := hNs (e' := aI 39 (delR S i n (n - 1))) (by decide : (44 : Nat) ≠ 43) j43
      have l44 := hS (aI 39 (delR S i n (n - 1))) j44
      have F2 : Fr [43, 44, 45, 61] h (h1.set 44 (aI 39 (delR S i n (n - 1)))) := (F.mono (by decide)).trans (Fr.set (by decide))
      refine Rq_iload_n dX9_removeClause_31 rfl ?_
      refine Rq_aload_n dX9_removeClause_32 rfl ?_
      refine Rq_get dX9_removeClause_33 flX9_7 l43 rfl ?_
      refine Rq_iconst (0) dX9_removeClause_36 (by decide) ?_
      refine Rq_iald 0 dX9_removeClause_37 l44 (by decide) (by decide) rfl ?_
      refine Rq_icmp_ge_t 65 dX9_removeClause_38 (by decide) (nI_le (Nat.le_refl (n - 1)) (by omega)) ?_
      refine Rq_aload_n dX9_removeClause_65 rfl ?_
      refine Rq_get dX9_removeClause_66 flX9_7 l43 rfl ?_
      refine Rq_iconst (0) dX9_removeClause_69 (by decide) ?_
      refine Rq_iald 0 dX9_removeClause_70 l44 (by decide) (by decide) rfl ?_
      refine Rq_iret dX9_removeClause_71 rfl ?_
      have y := x0.chg F2 l43 l44 rfl (by omega) (fun k hk => by
        unfold delR
        rw [if_neg (by omega)]
        split
        · exact sv (k + 1) (by omega)
        · exact sv k (by omega)) (hNs (by decide) j45) (by omega) jo ⟨rc, hNs (by decide) (F.at (by decide) k61)⟩
      exact ⟨rfl, y.1, y.2⟩
    | succ j ih =>
      intro k hk
      have l43 := hNs (e' := aI 39 (delR S i n (i + k))) (by decide : (44 : Nat) ≠ 43) j43
      have l44 := hS (aI 39 (delR S i n (i + k))) j44
      have e1 : (1 : Int32) + nI (i + k) = nI (1 + (i + k)) := nI_add 1 (i + k)
      have e2 : (1 : Int32) + nI (i + k) + 1 = nI (1 + (i + k) + 1) := by rw [e1, nI_1]
      have e3 : delR S i n (i + k) (1 + (i + k) + 1) = S (1 + (i + k) + 1) := by
        unfold delR
        rw [if_neg (by omega), if_neg (by omega)]
      have q := ih (k + 1) (by omega)
      refine Rq_iload_n dX9_removeClause_31 rfl ?_
      refine Rq_aload_n dX9_removeClause_32 rfl ?_
      refine Rq_get dX9_removeClause_33 flX9_7 l43 rfl ?_
      refine Rq_iconst (0) dX9_removeClause_36 (by decide) ?_
      refine Rq_iald 0 dX9_removeClause_37 l44 (by decide) (by decide) rfl ?_
      refine Rq_icmp_ge_f 65 dX9_removeClause_38 (by decide) (nI_ge (a := i + k) (b := n - 1) (by omega) (by omega)) ?_
      refine Rq_aload_n dX9_removeClause_41 rfl ?_
      refine Rq_get dX9_removeClause_42 flX9_7 l43 rfl ?_
      refine Rq_iconst (1) dX9_removeClause_45 (by decide) ?_
      refine Rq_iload_n dX9_removeClause_46 rfl ?_
      refine Rq_iadd dX9_removeClause_47 ?_
      refine Rq_aload_n dX9_removeClause_48 rfl ?_
      refine Rq_get dX9_removeClause_49 flX9_7 l43 rfl ?_
      refine Rq_iconst (1) dX9_removeClause_52 (by decide) ?_
      refine Rq_iload_n dX9_removeClause_53 rfl ?_
      refine Rq_iadd dX9_removeClause_54 ?_
      refine Rq_iconst (1) dX9_removeClause_55 (by decide) ?_
      refine Rq_iadd dX9_removeClause_56 ?_
      refine Rq_iald (1 + (i + k) + 1) dX9_removeClause_57 l44 (by omega) (by decide) e2 ?_
      refine Rq_iast (1 + (i + k)) dX9_removeClause_58 l44 (by omega) (by decide) e1 ?_
      rw [List.set_set, e3, delR_step]
      refine Rq_iinc [_, _, _] (1) dX9_removeClause_59 rfl (by decide) rfl rfl rfl ?_
      refine Rq_goto 31 dX9_removeClause_62 (by decide) ?_
      rw [nI_1]
      exact q
  refine Rq_aload_n dX9_removeClause_19 rfl ?_
  refine Rq_get dX9_removeClause_20 flX9_7 j43 rfl ?_
  refine Rq_iconst (0) dX9_removeClause_23 (by decide) ?_
  refine Rq_dup2 dX9_removeClause_24 rfl rfl ?_
  refine Rq_iald 0 dX9_removeClause_25 j44 (by decide) (by decide) rfl ?_
  refine Rq_iconst (1) dX9_removeClause_26 (by decide) ?_
  refine Rq_isub dX9_removeClause_27 ?_
  refine Rq_iast 0 dX9_removeClause_28 j44 (by decide) (by decide) rfl ?_
  refine Rq_iload_n dX9_removeClause_29 rfl ?_
  refine Rq_istore_n [_, _, _] dX9_removeClause_30 rfl rfl rfl ?_
  rw [e0]
  exact loop (n - 1 - i) 0 (by omega)
theorem rx_asm_oor (d : Nat) {a : Int32} (x : RI h S V er tx n sm tn) (hc : ¬ isLitP a) : Mq mX9_assume (d + 2) [.ref 43, .int a] h (qR h S V (upd er 0 (er 0 + 1)) tx n sm tn (.int (-2))) := by
  have y := x.err (upd er 0 (er 0 + 1))
  obtain ⟨ic, nm, rm, hf, ht, rt, mm, il, sp, rdm, k43, k44, s0, n16, sv, sm5, k46, -⟩ := x.k43
  refine Mq_of [_, _, _] (by decide +kernel) rfl rfl ?_
  refine Rq_iload_n dX9_assume_0 rfl ?_
  refine Rq_callS [_] dX9_assume_1 clX9_104 (rp_isLit_f d h hc) rfl rfl rfl ?_
  refine Rq_if_ne_f 14 dX9_assume_4 (by decide) rfl ?_
  refine Rq_aload_n dX9_assume_7 rfl ?_
  refine Rq_bipush (-2) dX9_assume_8 (by decide) ?_
  refine Rq_callV [_] dX9_assume_10 clX9_84 rfl k43 (rp_err (d + 1) 0 (by decide) (-2) (by decide) k43 k46) rfl rfl rfl ?_
  refine Rq_iret dX9_assume_13 rfl ?_
  exact ⟨rfl, Fr.set (by decide), y⟩
theorem rx_asm_cf (d : Nat) {a : Int32} (x : RI h S V er tx n sm tn) (hc : isLitP a) (hf : ¬ (S 17 ||| S 18) &&& rVars (rBit a) = 0) : Mq mX9_assume (d + 2) [.ref 43, .int a] h (qR h S V (upd er 1 (er 1 + 1)) tx n sm tn (.int (-3))) := by
  have y := x.err (upd er 1 (er 1 + 1))
  obtain ⟨ic, nm, rm, hf', ht, rt, mm, il, sp, rdm, k43, k44, s0, n16, sv, sm5, k46, -⟩ := x.k43
  refine Mq_of [_, _, _] (by decide +kernel) rfl rfl ?_
  refine Rq_iload_n dX9_assume_0 rfl ?_
  refine Rq_callS [_] dX9_assume_1 clX9_104 (rp_isLit_t d h hc) rfl rfl rfl ?_
  refine Rq_if_ne_t 14 dX9_assume_4 (by decide) (by decide) ?_
  refine Rq_iload_n dX9_assume_14 rfl ?_
  refine Rq_callS [_] dX9_assume_15 clX9_88 (rp_bitOf (d + 1) h a) rfl rfl rfl ?_
  refine Rq_callS [_] dX9_assume_18 clX9_91 (rp_vars (d + 1) h _) rfl rfl rfl ?_
  refine Rq_istore_n [_, _, _] dX9_assume_21 rfl rfl rfl ?_
  refine Rq_aload_n dX9_assume_22 rfl ?_
  refine Rq_callV [] dX9_assume_23 clX9_107 rfl k43 (rp_assumed (d + 1) k43 k44) rfl rfl rfl ?_
  refine Rq_iload_n dX9_assume_26 rfl ?_
  refine Rq_iand dX9_assume_27 ?_
  refine Rq_if_eq_f 38 dX9_assume_28 (by decide) hf ?_
  refine Rq_aload_n dX9_assume_31 rfl ?_
  refine Rq_bipush (-3) dX9_assume_32 (by decide) ?_
  refine Rq_callV [_] dX9_assume_34 clX9_84 rfl k43 (rp_err (d + 1) 1 (by decide) (-3) (by decide) k43 k46) rfl rfl rfl ?_
  refine Rq_iret dX9_assume_37 rfl ?_
  exact ⟨rfl, Fr.set (by decide), y⟩
def asmS (S : Nat → Int32) (a : Int32) : Nat → Int32 := if a ≤ 0 then upd S 18 (S 18 ||| rVars (rBit a)) else upd S 17 (S 17 ||| rVars (rBit a))
theorem upd_keep {f : Nat → Int32} {k j : Nat} {v : Int32} (h : ¬ j = k) : upd f k v j = f j := by unfold upd; rw [if_neg h]
theorem rx_asm (d : Nat) {a : Int32} (x : RI h S V er tx n sm tn) (hc : isLitP a) (hf : (S 17 ||| S 18) &&& rVars (rBit a) = 0) : Mq mX9_assume (d + 2) [.ref 43, .int a] h (qR h (asmS S a) (svV sm V S) er tx n (min sm 4 + 1) tn (.int (nI (pcN (asmS S a 17 ||| asmS S a 18))))) := by
  have x0 := x
  obtain ⟨ic, nm, rm, hf', ht, rt, mm, il, sp, rdm, k43, k44, s0, n16, sv, sm5, k46, k47, tl, ⟨rc, k61⟩, k45, vo⟩ := x.k43
  refine Mq_of [_, _, _] (by decide +kernel) rfl rfl ?_
  refine Rq_iload_n dX9_assume_0 rfl ?_
  refine Rq_callS [_] dX9_assume_1 clX9_104 (rp_isLit_t d h hc) rfl rfl rfl ?_
  refine Rq_if_ne_t 14 dX9_assume_4 (by decide) (by decide) ?_
  refine Rq_iload_n dX9_assume_14 rfl ?_
  refine Rq_callS [_] dX9_assume_15 clX9_88 (rp_bitOf (d + 1) h a) rfl rfl rfl ?_
  refine Rq_callS [_] dX9_assume_18 clX9_91 (rp_vars (d + 1) h _) rfl rfl rfl ?_
  refine Rq_istore_n [_, _, _] dX9_assume_21 rfl rfl rfl ?_
  refine Rq_aload_n dX9_assume_22 rfl ?_
  refine Rq_callV [] dX9_assume_23 clX9_107 rfl k43 (rp_assumed (d + 1) k43 k44) rfl rfl rfl ?_
  refine Rq_iload_n dX9_assume_26 rfl ?_
  refine Rq_iand dX9_assume_27 ?_
  refine Rq_if_eq_t 38 dX9_assume_28 (by decide) hf ?_
  refine Rq_aload_n dX9_assume_38 rfl ?_
  refine Rq_callVq [] dX9_assume_39 clX9_94 rfl k43 (ri_save (d + 1) x k43) rfl rfl rfl (fun rv h1 hq => ?_)
  obtain ⟨rfl, F, j44, j43, j45, jo⟩ := hq
  have l43 := hNs (e' := aI 39 (asmS S a)) (by decide : (44 : Nat) ≠ 43) j43
  have l44 := hS (aI 39 (asmS S a)) j44
  have F2 : Fr [43, 44, 45, 61] h (h1.set 44 (aI 39 (asmS S a))) := (F.mono (by decide)).trans (Fr.set (by decide))
  have sk : ∀ k, k < 17 → asmS S a k = S k := fun k hk => by
    unfold asmS
    split <;> exact upd_keep (by omega)
  have y := x0.chg F2 l43 l44 ((sk 0 (by decide)).trans s0) n16 (fun k hk => by rw [sk _ (by omega)]; exact sv k hk) (hNs (by decide) j45) (by omega) jo ⟨rc, hNs (by decide) (F.at (by decide) k61)⟩
  have K : Rq mX9_assume (d + 2) 62 [.ref 43, .int a, .int (rVars (rBit a))] [] (h1.set 44 (aI 39 (asmS S a))) (qR h (asmS S a) (svV sm V S) er tx n (min sm 4 + 1) tn (.int (nI (pcN (asmS S a 17 ||| asmS S a 18))))) := by
    refine Rq_aload_n dX9_assume_62 rfl ?_
    refine Rq_callV [] dX9_assume_63 clX9_107 rfl l43 (rp_assumed (d + 1) l43 l44) rfl rfl rfl ?_
    refine Rq_callS [_] dX9_assume_66 clX9_101 (rp_ones (d + 1) _ _) rfl rfl rfl ?_
    refine Rq_iret dX9_assume_69 rfl ?_
    exact ⟨rfl, y.1, y.2⟩
  by_cases c : a ≤ 0
  · have e : asmS S a = upd S 18 (S 18 ||| rVars (rBit a)) := if_pos c
    rw [e] at K ⊢
    refine Rq_aload_n dX9_assume_42 rfl ?_
    refine Rq_get dX9_assume_43 flX9_7 j43 rfl ?_
    refine Rq_iload_n dX9_assume_46 rfl ?_
    refine Rq_if_le_t 55 dX9_assume_47 (by decide) c ?_
    refine Rq_bipush (18) dX9_assume_55 (by decide) ?_
    refine Rq_dup2 dX9_assume_57 rfl rfl ?_
    refine Rq_iald 18 dX9_assume_58 j44 (by decide) (by decide) rfl ?_
    refine Rq_iload_n dX9_assume_59 rfl ?_
    refine Rq_ior dX9_assume_60 ?_
    refine Rq_iast 18 dX9_assume_61 j44 (by decide) (by decide) rfl ?_
    exact K
  · have e : asmS S a = upd S 17 (S 17 ||| rVars (rBit a)) := if_neg c
    rw [e] at K ⊢
    refine Rq_aload_n dX9_assume_42 rfl ?_
    refine Rq_get dX9_assume_43 flX9_7 j43 rfl ?_
    refine Rq_iload_n dX9_assume_46 rfl ?_
    refine Rq_if_le_f 55 dX9_assume_47 (by decide) c ?_
    refine Rq_bipush (17) dX9_assume_50 (by decide) ?_
    refine Rq_goto 57 dX9_assume_52 (by decide) ?_
    refine Rq_dup2 dX9_assume_57 rfl rfl ?_
    refine Rq_iald 17 dX9_assume_58 j44 (by decide) (by decide) rfl ?_
    refine Rq_iload_n dX9_assume_59 rfl ?_
    refine Rq_ior dX9_assume_60 ?_
    refine Rq_iast 17 dX9_assume_61 j44 (by decide) (by decide) rfl ?_
    exact K
theorem rx_ret (d : Nat) (x : RI h S V er tx n sm tn) : Mq mX9_retractAll (d + 1) [.ref 43] h (qR h (upd (upd S 17 0) 18 0) (svV sm V S) er tx n (min sm 4 + 1) tn (.int (nI (pcN (S 17 ||| S 18))))) := by
  have x0 := x
  obtain ⟨ic, nm, rm, hf', ht, rt, mm, il, sp, rdm, k43, k44, s0, n16, sv, sm5, k46, k47, tl, ⟨rc, k61⟩, k45, vo⟩ := x.k43
  refine Mq_of [_, _] (by decide +kernel) rfl rfl ?_
  refine Rq_aload_n dX9_retractAll_0 rfl ?_
  refine Rq_callVq [] dX9_retractAll_1 clX9_94 rfl k43 (ri_save d x k43) rfl rfl rfl (fun rv h1 hq => ?_)
  obtain ⟨rfl, F, j44, j43, j45, jo⟩ := hq
  have i43 := hNs (e' := aI 39 (upd S 17 0)) (by decide : (44 : Nat) ≠ 43) j43
  have i44 := hS (aI 39 (upd S 17 0)) j44
  have l43 := hNs (e' := aI 39 (upd (upd S 17 0) 18 0)) (by decide : (44 : Nat) ≠ 43) j43
  have l44 := hS (aI 39 (upd (upd S 17 0) 18 0)) j44
  have F2 : Fr [43, 44, 45, 61] h (h1.set 44 (aI 39 (upd (upd S 17 0) 18 0))) := (F.mono (by decide)).trans (Fr.set (by decide))
  have sk : ∀ k, k < 17 → upd (upd S 17 0) 18 0 k = S k := fun k hk => by rw [upd_keep (by omega), upd_keep (by omega)]
  have y := x0.chg F2 l43 l44 ((sk 0 (by decide)).trans s0) n16 (fun k hk => by rw [sk _ (by omega)]; exact sv k hk) (hNs (by decide) j45) (by omega) jo ⟨rc, hNs (by decide) (F.at (by decide) k61)⟩
  refine Rq_aload_n dX9_retractAll_4 rfl ?_
  refine Rq_callV [] dX9_retractAll_5 clX9_107 rfl j43 (rp_assumed d j43 j44) rfl rfl rfl ?_
  refine Rq_callS [_] dX9_retractAll_8 clX9_101 (rp_ones d _ _) rfl rfl rfl ?_
  refine Rq_istore_n [_, _] dX9_retractAll_11 rfl rfl rfl ?_
  refine Rq_aload_n dX9_retractAll_12 rfl ?_
  refine Rq_get dX9_retractAll_13 flX9_7 j43 rfl ?_
  refine Rq_bipush (17) dX9_retractAll_16 (by decide) ?_
  refine Rq_iconst (0) dX9_retractAll_18 (by decide) ?_
  refine Rq_iast 17 dX9_retractAll_19 j44 (by decide) (by decide) rfl ?_
  refine Rq_aload_n dX9_retractAll_20 rfl ?_
  refine Rq_get dX9_retractAll_21 flX9_7 i43 rfl ?_
  refine Rq_bipush (18) dX9_retractAll_24 (by decide) ?_
  refine Rq_iconst (0) dX9_retractAll_26 (by decide) ?_
  refine Rq_iast 18 dX9_retractAll_27 i44 (by decide) (by decide) rfl ?_
  rw [List.set_set]
  refine Rq_iload_n dX9_retractAll_28 rfl ?_
  refine Rq_iret dX9_retractAll_29 rfl ?_
  exact ⟨rfl, y.1, y.2⟩
theorem rx_wt_oor (d : Nat) {a v : Int32} (x : RI h S V er tx n sm tn) (hc : ¬ (isLitP a ∧ ¬ v < 0 ∧ v ≤ 9)) : Mq mX9_setWeight (d + 2) [.ref 43, .int a, .int v] h (qR h S V (upd er 0 (er 0 + 1)) tx n sm tn (.int (-2))) := by
  have y := x.err (upd er 0 (er 0 + 1))
  obtain ⟨ic, nm, rm, hf, ht, rt, mm, il, sp, rdm, k43, k44, s0, n16, sv, sm5, k46, -⟩ := x.k43
  refine Mq_of [_, _, _, _] (by decide +kernel) rfl rfl ?_
  by_cases c1 : isLitP a
  · refine Rq_iload_n dX9_setWeight_0 rfl ?_
    refine Rq_callS [_] dX9_setWeight_1 clX9_104 (rp_isLit_t d h c1) rfl rfl rfl ?_
    refine Rq_if_eq_f 19 dX9_setWeight_4 (by decide) (by decide) ?_
    refine Rq_iload_n dX9_setWeight_7 rfl ?_
    refine Rq_i2l dX9_setWeight_8 ?_
    refine Rq_lconst (0) dX9_setWeight_9 (by decide) ?_
    refine Rq_ldc2 dX9_setWeight_10 kcX9_111 ?_
    refine Rq_callS [_, _, _] dX9_setWeight_13 clX9_69 (rp_in_f (d + 1) h (fun q => hc ⟨c1, (Int32.not_lt.mpr (le64.mp (show (0 : Int32).toInt64 ≤ _ from q.1))), le64.mp (show _ ≤ (9 : Int32).toInt64 from q.2)⟩)) rfl rfl rfl ?_
    refine Rq_if_ne_f 26 dX9_setWeight_16 (by decide) rfl ?_
    refine Rq_aload_n dX9_setWeight_19 rfl ?_
    refine Rq_bipush (-2) dX9_setWeight_20 (by decide) ?_
    refine Rq_callV [_] dX9_setWeight_22 clX9_84 rfl k43 (rp_err (d + 1) 0 (by decide) (-2) (by decide) k43 k46) rfl rfl rfl ?_
    refine Rq_iret dX9_setWeight_25 rfl ?_
    exact ⟨rfl, Fr.set (by decide), y⟩
  · refine Rq_iload_n dX9_setWeight_0 rfl ?_
    refine Rq_callS [_] dX9_setWeight_1 clX9_104 (rp_isLit_f d h c1) rfl rfl rfl ?_
    refine Rq_if_eq_t 19 dX9_setWeight_4 (by decide) rfl ?_
    refine Rq_aload_n dX9_setWeight_19 rfl ?_
    refine Rq_bipush (-2) dX9_setWeight_20 (by decide) ?_
    refine Rq_callV [_] dX9_setWeight_22 clX9_84 rfl k43 (rp_err (d + 1) 0 (by decide) (-2) (by decide) k43 k46) rfl rfl rfl ?_
    refine Rq_iret dX9_setWeight_25 rfl ?_
    exact ⟨rfl, Fr.set (by decide), y⟩
theorem cdN_rng {a : Int32} (hc : isLitP a) : 2 ≤ cdN a ∧ cdN a ≤ 21 := by
  obtain ⟨i, hi, rfl⟩ := lz_cases hc.2
  have : ∀ i, i < 21 → ¬ (nI i - 10 = 0) → 2 ≤ cdN (nI i - 10) ∧ cdN (nI i - 10) ≤ 21 := by decide +kernel
  exact this i hi hc.1
theorem rx_wt (d : Nat) {a v : Int32} (x : RI h S V er tx n sm tn) (hc : isLitP a) (h1 : ¬ v < 0) (h2 : v ≤ 9) : Mq mX9_setWeight (d + 2) [.ref 43, .int a, .int v] h (qR h (upd S (17 + cdN a) v) (svV sm V S) er tx n (min sm 4 + 1) tn (.int (S (17 + cdN a)))) := by
  have x0 := x
  obtain ⟨ic, nm, rm, hf', ht, rt, mm, il, sp, rdm, k43, k44, s0, n16, sv, sm5, k46, k47, tl, ⟨rc, k61⟩, k45, vo⟩ := x.k43
  have cr := cdN_rng hc
  refine Mq_of [_, _, _, _] (by decide +kernel) rfl rfl ?_
  refine Rq_iload_n dX9_setWeight_0 rfl ?_
  refine Rq_callS [_] dX9_setWeight_1 clX9_104 (rp_isLit_t d h hc) rfl rfl rfl ?_
  refine Rq_if_eq_f 19 dX9_setWeight_4 (by decide) (by decide) ?_
  refine Rq_iload_n dX9_setWeight_7 rfl ?_
  refine Rq_i2l dX9_setWeight_8 ?_
  refine Rq_lconst (0) dX9_setWeight_9 (by decide) ?_
  refine Rq_ldc2 dX9_setWeight_10 kcX9_111 ?_
  refine Rq_callS [_, _, _] dX9_setWeight_13 clX9_69 (rp_in_t (d + 1) h (show (0 : Int32).toInt64 ≤ _ from le64.mpr (Int32.not_lt.mp h1)) (show _ ≤ (9 : Int32).toInt64 from le64.mpr h2)) rfl rfl rfl ?_
  refine Rq_if_ne_t 26 dX9_setWeight_16 (by decide) (by decide) ?_
  refine Rq_aload_n dX9_setWeight_26 rfl ?_
  refine Rq_callVq [] dX9_setWeight_27 clX9_94 rfl k43 (ri_save (d + 1) x k43) rfl rfl rfl (fun rv h3 hq => ?_)
  obtain ⟨rfl, F, j44, j43, j45, jo⟩ := hq
  have l43 := hNs (e' := aI 39 (upd S (17 + cdN a) v)) (by decide : (44 : Nat) ≠ 43) j43
  have l44 := hS (aI 39 (upd S (17 + cdN a) v)) j44
  have F2 : Fr [43, 44, 45, 61] h (h3.set 44 (aI 39 (upd S (17 + cdN a) v))) := (F.mono (by decide)).trans (Fr.set (by decide))
  have sk : ∀ k, k < 17 → upd S (17 + cdN a) v k = S k := fun k hk => upd_keep (by omega)
  have y := x0.chg F2 l43 l44 ((sk 0 (by decide)).trans s0) n16 (fun k hk => by rw [sk _ (by omega)]; exact sv k hk) (hNs (by decide) j45) (by omega) jo ⟨rc, hNs (by decide) (F.at (by decide) k61)⟩
  refine Rq_aload_n dX9_setWeight_30 rfl ?_
  refine Rq_get dX9_setWeight_31 flX9_7 j43 rfl ?_
  refine Rq_iload_n dX9_setWeight_34 rfl ?_
  refine Rq_callS [_] dX9_setWeight_35 clX9_113 (rp_weightAt (d + 1) _ hc) rfl rfl rfl ?_
  refine Rq_iald (17 + cdN a) dX9_setWeight_38 j44 (by omega) (by decide) rfl ?_
  refine Rq_istore_n [_, _, _, _] dX9_setWeight_39 rfl rfl rfl ?_
  refine Rq_aload_n dX9_setWeight_40 rfl ?_
  refine Rq_get dX9_setWeight_41 flX9_7 j43 rfl ?_
  refine Rq_iload_n dX9_setWeight_44 rfl ?_
  refine Rq_callS [_] dX9_setWeight_45 clX9_113 (rp_weightAt (d + 1) _ hc) rfl rfl rfl ?_
  refine Rq_iload_n dX9_setWeight_48 rfl ?_
  refine Rq_iast (17 + cdN a) dX9_setWeight_49 j44 (by omega) (by decide) rfl ?_
  refine Rq_iload_n dX9_setWeight_50 rfl ?_
  refine Rq_iret dX9_setWeight_51 rfl ?_
  exact ⟨rfl, y.1, y.2⟩
end RF
