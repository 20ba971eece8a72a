/-! the reference: reading the text -/
def bAt (n : Nat) (t : Nat → Int32) (p : Nat) : Int32 := if p < n then t p else -1
theorem digb_bAt {n : Nat} {t : Nat → Int32} {p : Nat} : digb n t p = true ↔ 48 ≤ bAt n t p ∧ bAt n t p ≤ 57 := by
  unfold digb bAt
  by_cases c : p < n
  · rw [if_pos c, decide_eq_true c]
    simp
  · rw [if_neg c, decide_eq_false c]
    simp
section RF
variable {h h0 : Hp} {sm ic nm rm hf ht rt mm il sp rdm : Int32} {n : Nat} {t : Nat → Int32}
theorem rp_figA (d : Nat) (p : Nat) {b : Bool} (hb : digb n t p = b) : Mx mX9_isFigure (d + 1) [.int (bAt n t p)] h (some (.int (b2i b))) h := by
  cases b with
  | true => exact rp_fig_t d h (digb_bAt.mp hb).1 (digb_bAt.mp hb).2
  | false => exact rp_fig_f d h (fun z => by rw [digb_bAt.mpr z] at hb; cases hb)
theorem rp_byteAt (d : Nat) {p : Nat} (hp : p < 1000) (hn : n ≤ 150) (k0 : h[43]? = some (obM sm (nI n) ic nm rm hf ht rt mm il sp rdm)) (k1 : h[47]? = some (aI 150 t)) : Mx mX9_byteAt d [.ref 43, .int (nI p)] h (some (.int (bAt n t p))) h := by
  refine Mx_of [_, _] (by decide +kernel) rfl rfl ?_
  unfold bAt
  by_cases c : p < n
  · rw [if_pos c]
    refine Rx_iload_n dX9_byteAt_0 rfl ?_
    refine Rx_aload_n dX9_byteAt_1 rfl ?_
    refine Rx_get dX9_byteAt_2 flX9_219 k0 rfl ?_
    refine Rx_icmp_ge_f 17 dX9_byteAt_5 (by decide) (nI_ge c (by omega)) ?_
    refine Rx_aload_n dX9_byteAt_8 rfl ?_
    refine Rx_get dX9_byteAt_9 flX9_19 k0 rfl ?_
    refine Rx_iload_n dX9_byteAt_12 rfl ?_
    refine Rx_iald p dX9_byteAt_13 k1 (by omega) (by decide) rfl ?_
    refine Rx_goto 18 dX9_byteAt_14 (by decide) ?_
    exact Rx_iret dX9_byteAt_18 rfl
  · rw [if_neg c]
    refine Rx_iload_n dX9_byteAt_0 rfl ?_
    refine Rx_aload_n dX9_byteAt_1 rfl ?_
    refine Rx_get dX9_byteAt_2 flX9_219 k0 rfl ?_
    refine Rx_icmp_ge_t 17 dX9_byteAt_5 (by decide) (nI_le (by omega) (by omega)) ?_
    refine Rx_iconst (-1) dX9_byteAt_17 (by decide) ?_
    exact Rx_iret dX9_byteAt_18 rfl
theorem numv_1 (t : Nat → Int32) (q : Nat) : numv t q 1 = t q - 48 := rfl
theorem numv_2 (t : Nat → Int32) (q : Nat) : numv t q 2 = 10 * (t q - 48) + t (q + 1) - 48 := rfl
theorem digb_lt {p : Nat} (hb : digb n t p = true) : p < n ∧ bAt n t p = t p := by
  have c : p < n := by
    apply Decidable.byContradiction
    intro c
    unfold digb at hb
    rw [decide_eq_false c] at hb
    cases hb
  exact ⟨c, by unfold bAt; rw [if_pos c]⟩
def qSt (t : Nat → Int32) (p : Nat) : Nat := if t p = 45 then p + 1 else p
def lhP (sm : Int32) (n : Nat) (ic nm rm hf ht rt mm il rdm : Int32) (h : Hp) (c : Int32) (g : Nat ⊕ (Nat × Int32)) (r : Option Value) (h' : Hp) : Prop := ∃ sp', h' = h.set 43 (obM sm (nI n) ic nm rm hf ht rt mm il sp' rdm) ∧ match g with
  | .inl e => r = some (.int (-1 - nI e)) ∧ e < 1000
  | .inr (p', c') => ∃ b, r = some (.int b) ∧ ¬ b < 0 ∧ c' = c ||| b ∧ sp' = nI p'
theorem rb_pos : ∀ v, v < 11 → 0 < v → ¬ rBit (nI v) < 0 ∧ ¬ rBit (-nI v) < 0 := by decide
/-- what literalHere does when the number and the end are known -/
theorem lh_end (d : Nat) {p q : Nat} {c v : Int32} (hq : q = qSt t p) (hp : p < 150) (k0 : h[43]? = some (obM sm (nI n) ic nm rm hf ht rt mm il sp rdm)) (e : Nat) (he : sp = nI e) (H : Hp) (hH : h = H.set 43 (obM sm (nI n) ic nm rm hf ht rt mm il sp rdm))
    (g : Nat ⊕ (Nat × Int32)) (hg : g = if 1 ≤ v ∧ v ≤ 10 then (if rVars c &&& rVars (rBit (if t p = 45 then -v else v)) = 0 then .inr (e, c ||| rBit (if t p = 45 then -v else v)) else .inl p) else .inl q) :
    Rq mX9_literalHere (d + 1) 145 [.ref 43, .int c, .int (nI p), .int (nI q), .int v, .retAddr 0] [] h (lhP sm n ic nm rm hf ht rt mm il rdm H c g) := by
  have q2 : q < 1000 := by rw [hq]; unfold qSt; split <;> omega
  by_cases c1 : 1 ≤ v ∧ v ≤ 10
  · rw [if_pos c1] at hg
    obtain ⟨v', hv, rfl⟩ := nI_lof (x := v) (n := 11) (by decide) (Int32.le_trans (by decide) c1.1) (by
      have := Int32.le_iff_toInt_le.mp c1.2
      rw [Int32.lt_iff_toInt_lt]
      have e1 : (10 : Int32).toInt = 10 := rfl
      have e2 : (nI 11).toInt = 11 := rfl
      omega)
    have hv0 : 0 < v' := by
      rcases Nat.eq_zero_or_pos v' with z | z
      · subst z; exact absurd c1.1 (by decide)
      · exact z
    have rb := rb_pos v' hv hv0
    by_cases cs : t p = 45
    · rw [if_pos cs] at hg
      have e1 : q = p + 1 := by rw [hq]; unfold qSt; rw [if_pos cs]
      refine Rq_iload dX9_literalHere_145 rfl ?_
      refine Rq_i2l dX9_literalHere_147 ?_
      refine Rq_lconst (1) dX9_literalHere_148 (by decide) ?_
      refine Rq_ldc2 dX9_literalHere_149 kcX9_67 ?_
      refine Rq_callS [_, _, _] dX9_literalHere_152 clX9_69 (rp_in_t d _ (show (1 : Int32).toInt64 ≤ _ from le64.mpr c1.1) (show _ ≤ (10 : Int32).toInt64 from le64.mpr c1.2)) rfl rfl rfl ?_
      refine Rq_if_ne_t 162 dX9_literalHere_155 (by decide) (by decide) ?_
      refine Rq_iload_n dX9_literalHere_162 rfl ?_
      refine Rq_iload_n dX9_literalHere_163 rfl ?_
      refine Rq_icmp_le_f 173 dX9_literalHere_164 (by decide) (by rw [e1]; exact nI_ge (by omega) (by omega)) ?_
      refine Rq_iload dX9_literalHere_167 rfl ?_
      refine Rq_ineg dX9_literalHere_169 ?_
      refine Rq_goto 175 dX9_literalHere_170 (by decide) ?_
      refine Rq_callS [_] dX9_literalHere_175 clX9_88 (rp_bitOf d _ _) rfl rfl rfl ?_
      refine Rq_istore [_, _, _, _, _, _] dX9_literalHere_178 rfl rfl rfl ?_
      refine Rq_iload_n dX9_literalHere_180 rfl ?_
      refine Rq_callS [_] dX9_literalHere_181 clX9_91 (rp_vars d _ _) rfl rfl rfl ?_
      refine Rq_iload dX9_literalHere_184 rfl ?_
      refine Rq_callS [_] dX9_literalHere_186 clX9_91 (rp_vars d _ _) rfl rfl rfl ?_
      refine Rq_iand dX9_literalHere_189 ?_
      by_cases c2 : rVars c &&& rVars (rBit (-nI v')) = 0
      · rw [if_pos c2] at hg
        refine Rq_if_eq_t 199 dX9_literalHere_190 (by decide) c2 ?_
        refine Rq_iload dX9_literalHere_199 rfl ?_
        refine Rq_iret dX9_literalHere_201 rfl ?_
        rw [hg]
        exact ⟨sp, hH, _, rfl, rb.2, rfl, he⟩
      · rw [if_neg c2] at hg
        refine Rq_if_eq_f 199 dX9_literalHere_190 (by decide) c2 ?_
        refine Rq_iconst (-1) dX9_literalHere_193 (by decide) ?_
        refine Rq_iload_n dX9_literalHere_194 rfl ?_
        refine Rq_isub dX9_literalHere_195 ?_
        refine Rq_goto 201 dX9_literalHere_196 (by decide) ?_
        refine Rq_iret dX9_literalHere_201 rfl ?_
        rw [hg]
        exact ⟨sp, hH, rfl, by omega⟩
    · rw [if_neg cs] at hg
      have e1 : q = p := by rw [hq]; unfold qSt; rw [if_neg cs]
      refine Rq_iload dX9_literalHere_145 rfl ?_
      refine Rq_i2l dX9_literalHere_147 ?_
      refine Rq_lconst (1) dX9_literalHere_148 (by decide) ?_
      refine Rq_ldc2 dX9_literalHere_149 kcX9_67 ?_
      refine Rq_callS [_, _, _] dX9_literalHere_152 clX9_69 (rp_in_t d _ (show (1 : Int32).toInt64 ≤ _ from le64.mpr c1.1) (show _ ≤ (10 : Int32).toInt64 from le64.mpr c1.2)) rfl rfl rfl ?_
      refine Rq_if_ne_t 162 dX9_literalHere_155 (by decide) (by decide) ?_
      refine Rq_iload_n dX9_literalHere_162 rfl ?_
      refine Rq_iload_n dX9_literalHere_163 rfl ?_
      refine Rq_icmp_le_t 173 dX9_literalHere_164 (by decide) (by rw [e1]; exact nI_le (by omega) (by omega)) ?_
      refine Rq_iload dX9_literalHere_173 rfl ?_
      refine Rq_callS [_] dX9_literalHere_175 clX9_88 (rp_bitOf d _ _) rfl rfl rfl ?_
      refine Rq_istore [_, _, _, _, _, _] dX9_literalHere_178 rfl rfl rfl ?_
      refine Rq_iload_n dX9_literalHere_180 rfl ?_
      refine Rq_callS [_] dX9_literalHere_181 clX9_91 (rp_vars d _ _) rfl rfl rfl ?_
      refine Rq_iload dX9_literalHere_184 rfl ?_
      refine Rq_callS [_] dX9_literalHere_186 clX9_91 (rp_vars d _ _) rfl rfl rfl ?_
      refine Rq_iand dX9_literalHere_189 ?_
      by_cases c2 : rVars c &&& rVars (rBit (nI v')) = 0
      · rw [if_pos c2] at hg
        refine Rq_if_eq_t 199 dX9_literalHere_190 (by decide) c2 ?_
        refine Rq_iload dX9_literalHere_199 rfl ?_
        refine Rq_iret dX9_literalHere_201 rfl ?_
        rw [hg]
        exact ⟨sp, hH, _, rfl, rb.1, rfl, he⟩
      · rw [if_neg c2] at hg
        refine Rq_if_eq_f 199 dX9_literalHere_190 (by decide) c2 ?_
        refine Rq_iconst (-1) dX9_literalHere_193 (by decide) ?_
        refine Rq_iload_n dX9_literalHere_194 rfl ?_
        refine Rq_isub dX9_literalHere_195 ?_
        refine Rq_goto 201 dX9_literalHere_196 (by decide) ?_
        refine Rq_iret dX9_literalHere_201 rfl ?_
        rw [hg]
        exact ⟨sp, hH, rfl, by omega⟩
  · rw [if_neg c1] at hg
    refine Rq_iload dX9_literalHere_145 rfl ?_
    refine Rq_i2l dX9_literalHere_147 ?_
    refine Rq_lconst (1) dX9_literalHere_148 (by decide) ?_
    refine Rq_ldc2 dX9_literalHere_149 kcX9_67 ?_
    refine Rq_callS [_, _, _] dX9_literalHere_152 clX9_69 (rp_in_f d _ (fun z => c1 ⟨le64.mp (show (1 : Int32).toInt64 ≤ _ from z.1), le64.mp (show _ ≤ (10 : Int32).toInt64 from z.2)⟩)) rfl rfl rfl ?_
    refine Rq_if_ne_f 162 dX9_literalHere_155 (by decide) rfl ?_
    refine Rq_iconst (-1) dX9_literalHere_158 (by decide) ?_
    refine Rq_iload_n dX9_literalHere_159 rfl ?_
    refine Rq_isub dX9_literalHere_160 ?_
    refine Rq_iret dX9_literalHere_161 rfl ?_
    rw [hg]
    exact ⟨sp, hH, rfl, q2⟩
theorem rp_litHere (d : Nat) {p : Nat} {c : Int32} (hp : p < n) (hn : n ≤ 150) (k0 : h[43]? = some (obM sm (nI n) ic nm rm hf ht rt mm il (nI p) rdm)) (k1 : h[47]? = some (aI 150 t)) :
    Mq mX9_literalHere (d + 2) [.ref 43, .int c] h (lhP sm n ic nm rm hf ht rt mm il rdm h c (gLit rBit rVars n t p c)) := by
  have hs : h = h.set 43 (obM sm (nI n) ic nm rm hf ht rt mm il (nI p) rdm) := (hset_same k0).symm
  have bp : bAt n t p = t p := by unfold bAt; rw [if_pos hp]
  unfold gLit
  have hq : (if t p = 45 then p + 1 else p) = qSt t p := rfl
  rw [hq]
  have q1 : qSt t p ≤ p + 1 := by unfold qSt; split <;> omega
  have q0 : p ≤ qSt t p := by unfold qSt; split <;> omega
  have K : Rq mX9_literalHere (d + 2) 22 [.ref 43, .int c, .int (nI p), .retAddr 0, .retAddr 0, .retAddr 0] [.int (nI (qSt t p))] h (lhP sm n ic nm rm hf ht rt mm il rdm h c (if cntD n t (qSt t p) = 0 then .inl (qSt t p) else if cntD n t (qSt t p) = 3 then .inl (qSt t p + 2) else if 1 ≤ numv t (qSt t p) (cntD n t (qSt t p)) ∧ numv t (qSt t p) (cntD n t (qSt t p)) ≤ 10 then (if rVars c &&& rVars (rBit (if t p = 45 then -numv t (qSt t p) (cntD n t (qSt t p)) else numv t (qSt t p) (cntD n t (qSt t p)))) = 0 then .inr (qSt t p + cntD n t (qSt t p), c ||| rBit (if t p = 45 then -numv t (qSt t p) (cntD n t (qSt t p)) else numv t (qSt t p) (cntD n t (qSt t p)))) else .inl p) else .inl (qSt t p))) := by
    generalize hqq : qSt t p = q at q0 q1 ⊢
    cases b0 : digb n t q with
    | false =>
      have e : cntD n t q = 0 := by unfold cntD; rw [b0]; rfl
      rw [e, if_pos rfl]
      by_cases cn : q < n
      · refine Rq_istore_n [_, _, _, _, _, _] dX9_literalHere_22 rfl rfl rfl ?_
        refine Rq_aload_n dX9_literalHere_23 rfl ?_
        refine Rq_iload_n dX9_literalHere_24 rfl ?_
        refine Rq_callV [_] dX9_literalHere_25 clX9_229 rfl k0 (rp_byteAt (d + 1) (by omega) hn k0 k1) rfl rfl rfl ?_
        refine Rq_callS [_] dX9_literalHere_28 clX9_232 (rp_figA (d + 0) q b0) rfl rfl rfl ?_
        refine Rq_if_ne_f 53 dX9_literalHere_31 (by decide) rfl ?_
        refine Rq_iconst (-1) dX9_literalHere_34 (by decide) ?_
        refine Rq_iload_n dX9_literalHere_35 rfl ?_
        refine Rq_aload_n dX9_literalHere_36 rfl ?_
        refine Rq_get dX9_literalHere_37 flX9_219 k0 rfl ?_
        refine Rq_icmp_ge_f 47 dX9_literalHere_40 (by decide) (nI_ge cn (by omega)) ?_
        refine Rq_iload_n dX9_literalHere_43 rfl ?_
        refine Rq_goto 51 dX9_literalHere_44 (by decide) ?_
        refine Rq_isub dX9_literalHere_51 ?_
        refine Rq_iret dX9_literalHere_52 rfl ?_
        exact ⟨nI p, hs, rfl, by omega⟩
      · have en : q = n := by omega
        refine Rq_istore_n [_, _, _, _, _, _] dX9_literalHere_22 rfl rfl rfl ?_
        refine Rq_aload_n dX9_literalHere_23 rfl ?_
        refine Rq_iload_n dX9_literalHere_24 rfl ?_
        refine Rq_callV [_] dX9_literalHere_25 clX9_229 rfl k0 (rp_byteAt (d + 1) (by omega) hn k0 k1) rfl rfl rfl ?_
        refine Rq_callS [_] dX9_literalHere_28 clX9_232 (rp_figA (d + 0) q b0) rfl rfl rfl ?_
        refine Rq_if_ne_f 53 dX9_literalHere_31 (by decide) rfl ?_
        refine Rq_iconst (-1) dX9_literalHere_34 (by decide) ?_
        refine Rq_iload_n dX9_literalHere_35 rfl ?_
        refine Rq_aload_n dX9_literalHere_36 rfl ?_
        refine Rq_get dX9_literalHere_37 flX9_219 k0 rfl ?_
        refine Rq_icmp_ge_t 47 dX9_literalHere_40 (by decide) (nI_le (by omega) (by omega)) ?_
        refine Rq_aload_n dX9_literalHere_47 rfl ?_
        refine Rq_get dX9_literalHere_48 flX9_219 k0 rfl ?_
        refine Rq_isub dX9_literalHere_51 ?_
        refine Rq_iret dX9_literalHere_52 rfl ?_
        exact ⟨nI p, hs, by rw [en], by omega⟩
    | true =>
      obtain ⟨lq, bq⟩ := digb_lt b0
      cases b1 : digb n t (q + 1) with
      | true =>
        obtain ⟨lq1, bq1⟩ := digb_lt b1
        cases b2 : digb n t (q + 2) with
        | true =>
          have e : cntD n t q = 3 := by unfold cntD; rw [b0, b1, b2]; rfl
          rw [e, if_neg (by decide), if_pos rfl]
          refine Rq_istore_n [_, _, _, _, _, _] dX9_literalHere_22 rfl rfl rfl ?_
          refine Rq_aload_n dX9_literalHere_23 rfl ?_
          refine Rq_iload_n dX9_literalHere_24 rfl ?_
          refine Rq_callV [_] dX9_literalHere_25 clX9_229 rfl k0 (rp_byteAt (d + 1) (by omega) hn k0 k1) rfl rfl rfl ?_
          refine Rq_callS [_] dX9_literalHere_28 clX9_232 (rp_figA (d + 0) q b0) rfl rfl rfl ?_
          refine Rq_if_ne_t 53 dX9_literalHere_31 (by decide) (by decide) ?_
          refine Rq_aload_n dX9_literalHere_53 rfl ?_
          refine Rq_iload_n dX9_literalHere_54 rfl ?_
          refine Rq_iconst (1) dX9_literalHere_55 (by decide) ?_
          refine Rq_iadd dX9_literalHere_56 ?_
          rw [nI_1]
          refine Rq_callV [_] dX9_literalHere_57 clX9_229 rfl k0 (rp_byteAt (d + 1) (by omega) hn k0 k1) rfl rfl rfl ?_
          refine Rq_callS [_] dX9_literalHere_60 clX9_232 (rp_figA (d + 0) (q + 1) b1) rfl rfl rfl ?_
          refine Rq_if_eq_f 85 dX9_literalHere_63 (by decide) (by decide) ?_
          refine Rq_aload_n dX9_literalHere_66 rfl ?_
          refine Rq_iload_n dX9_literalHere_67 rfl ?_
          refine Rq_iconst (2) dX9_literalHere_68 (by decide) ?_
          refine Rq_iadd dX9_literalHere_69 ?_
          rw [show nI q + (2 : Int32) = nI (q + 2) from nI_add q 2]
          refine Rq_callV [_] dX9_literalHere_70 clX9_229 rfl k0 (rp_byteAt (d + 1) (by omega) hn k0 k1) rfl rfl rfl ?_
          refine Rq_callS [_] dX9_literalHere_73 clX9_232 (rp_figA (d + 0) (q + 2) b2) rfl rfl rfl ?_
          refine Rq_if_eq_f 85 dX9_literalHere_76 (by decide) (by decide) ?_
          refine Rq_iconst (-1) dX9_literalHere_79 (by decide) ?_
          refine Rq_iload_n dX9_literalHere_80 rfl ?_
          refine Rq_iconst (2) dX9_literalHere_81 (by decide) ?_
          refine Rq_iadd dX9_literalHere_82 ?_
          rw [show nI q + (2 : Int32) = nI (q + 2) from nI_add q 2]
          refine Rq_isub dX9_literalHere_83 ?_
          refine Rq_iret dX9_literalHere_84 rfl ?_
          exact ⟨nI p, hs, rfl, by omega⟩
        | false =>
          have e : cntD n t q = 2 := by unfold cntD; rw [b0, b1, b2]; rfl
          rw [e, if_neg (by decide), if_neg (by decide)]
          refine Rq_istore_n [_, _, _, _, _, _] dX9_literalHere_22 rfl rfl rfl ?_
          refine Rq_aload_n dX9_literalHere_23 rfl ?_
          refine Rq_iload_n dX9_literalHere_24 rfl ?_
          refine Rq_callV [_] dX9_literalHere_25 clX9_229 rfl k0 (rp_byteAt (d + 1) (by omega) hn k0 k1) rfl rfl rfl ?_
          refine Rq_callS [_] dX9_literalHere_28 clX9_232 (rp_figA (d + 0) q b0) rfl rfl rfl ?_
          refine Rq_if_ne_t 53 dX9_literalHere_31 (by decide) (by decide) ?_
          refine Rq_aload_n dX9_literalHere_53 rfl ?_
          refine Rq_iload_n dX9_literalHere_54 rfl ?_
          refine Rq_iconst (1) dX9_literalHere_55 (by decide) ?_
          refine Rq_iadd dX9_literalHere_56 ?_
          rw [nI_1]
          refine Rq_callV [_] dX9_literalHere_57 clX9_229 rfl k0 (rp_byteAt (d + 1) (by omega) hn k0 k1) rfl rfl rfl ?_
          refine Rq_callS [_] dX9_literalHere_60 clX9_232 (rp_figA (d + 0) (q + 1) b1) rfl rfl rfl ?_
          refine Rq_if_eq_f 85 dX9_literalHere_63 (by decide) (by decide) ?_
          refine Rq_aload_n dX9_literalHere_66 rfl ?_
          refine Rq_iload_n dX9_literalHere_67 rfl ?_
          refine Rq_iconst (2) dX9_literalHere_68 (by decide) ?_
          refine Rq_iadd dX9_literalHere_69 ?_
          rw [show nI q + (2 : Int32) = nI (q + 2) from nI_add q 2]
          refine Rq_callV [_] dX9_literalHere_70 clX9_229 rfl k0 (rp_byteAt (d + 1) (by omega) hn k0 k1) rfl rfl rfl ?_
          refine Rq_callS [_] dX9_literalHere_73 clX9_232 (rp_figA (d + 0) (q + 2) b2) rfl rfl rfl ?_
          refine Rq_if_eq_t 85 dX9_literalHere_76 (by decide) rfl ?_
          refine Rq_aload_n dX9_literalHere_85 rfl ?_
          refine Rq_iload_n dX9_literalHere_86 rfl ?_
          refine Rq_callV [_] dX9_literalHere_87 clX9_229 rfl k0 (rp_byteAt (d + 1) (by omega) hn k0 k1) rfl rfl rfl ?_
          refine Rq_bipush (48) dX9_literalHere_90 (by decide) ?_
          refine Rq_isub dX9_literalHere_92 ?_
          refine Rq_istore [_, _, _, _, _, _] dX9_literalHere_93 rfl rfl rfl ?_
          refine Rq_aload_n dX9_literalHere_95 rfl ?_
          refine Rq_iload_n dX9_literalHere_96 rfl ?_
          refine Rq_iconst (1) dX9_literalHere_97 (by decide) ?_
          refine Rq_iadd dX9_literalHere_98 ?_
          rw [nI_1, bq]
          refine Rq_put [_, _, _, _, _, _, _, _, _, _, _, _, _, _, _, _, _, _, _, _, _, _, _, _, _, _, _, _, _, _] dX9_literalHere_99 fpX9_226 k0 rfl (okv_i _) rfl ?_
          have j0 := hS (obM sm (nI n) ic nm rm hf ht rt mm il (nI (q + 1)) rdm) k0
          have j1 := hNs (e' := obM sm (nI n) ic nm rm hf ht rt mm il (nI (q + 1)) rdm) (by decide : (43 : Nat) ≠ 47) k1
          refine Rq_aload_n dX9_literalHere_102 rfl ?_
          refine Rq_aload_n dX9_literalHere_103 rfl ?_
          refine Rq_get dX9_literalHere_104 flX9_226 j0 rfl ?_
          refine Rq_callV [_] dX9_literalHere_107 clX9_229 rfl j0 (rp_byteAt (d + 1) (by omega) hn j0 j1) rfl rfl rfl ?_
          refine Rq_callS [_] dX9_literalHere_110 clX9_232 (rp_figA (d + 0) (q + 1) b1) rfl rfl rfl ?_
          refine Rq_if_eq_f 145 dX9_literalHere_113 (by decide) (by decide) ?_
          refine Rq_bipush (10) dX9_literalHere_116 (by decide) ?_
          refine Rq_iload dX9_literalHere_118 rfl ?_
          refine Rq_imul dX9_literalHere_120 ?_
          refine Rq_aload_n dX9_literalHere_121 rfl ?_
          refine Rq_aload_n dX9_literalHere_122 rfl ?_
          refine Rq_get dX9_literalHere_123 flX9_226 j0 rfl ?_
          refine Rq_callV [_] dX9_literalHere_126 clX9_229 rfl j0 (rp_byteAt (d + 1) (by omega) hn j0 j1) rfl rfl rfl ?_
          refine Rq_iadd dX9_literalHere_129 ?_
          refine Rq_bipush (48) dX9_literalHere_130 (by decide) ?_
          refine Rq_isub dX9_literalHere_132 ?_
          refine Rq_istore [_, _, _, _, _, _] dX9_literalHere_133 rfl rfl rfl ?_
          rw [bq1]
          refine Rq_aload_n dX9_literalHere_135 rfl ?_
          refine Rq_dup dX9_literalHere_136 rfl ?_
          refine Rq_get dX9_literalHere_137 flX9_226 j0 rfl ?_
          refine Rq_iconst (1) dX9_literalHere_140 (by decide) ?_
          refine Rq_iadd dX9_literalHere_141 ?_
          refine Rq_put [_, _, _, _, _, _, _, _, _, _, _, _, _, _, _, _, _, _, _, _, _, _, _, _, _, _, _, _, _, _] dX9_literalHere_142 fpX9_226 j0 rfl (okv_i _) rfl ?_
          rw [nI_1, List.set_set]
          exact lh_end (d + 1) hqq.symm (by omega) (hS _ k0) (q + 2) rfl h rfl _ rfl
      | false =>
        have e : cntD n t q = 1 := by unfold cntD; rw [b0, b1]; rfl
        rw [e, if_neg (by decide), if_neg (by decide)]
        refine Rq_istore_n [_, _, _, _, _, _] dX9_literalHere_22 rfl rfl rfl ?_
        refine Rq_aload_n dX9_literalHere_23 rfl ?_
        refine Rq_iload_n dX9_literalHere_24 rfl ?_
        refine Rq_callV [_] dX9_literalHere_25 clX9_229 rfl k0 (rp_byteAt (d + 1) (by omega) hn k0 k1) rfl rfl rfl ?_
        refine Rq_callS [_] dX9_literalHere_28 clX9_232 (rp_figA (d + 0) q b0) rfl rfl rfl ?_
        refine Rq_if_ne_t 53 dX9_literalHere_31 (by decide) (by decide) ?_
        refine Rq_aload_n dX9_literalHere_53 rfl ?_
        refine Rq_iload_n dX9_literalHere_54 rfl ?_
        refine Rq_iconst (1) dX9_literalHere_55 (by decide) ?_
        refine Rq_iadd dX9_literalHere_56 ?_
        rw [nI_1]
        refine Rq_callV [_] dX9_literalHere_57 clX9_229 rfl k0 (rp_byteAt (d + 1) (by omega) hn k0 k1) rfl rfl rfl ?_
        refine Rq_callS [_] dX9_literalHere_60 clX9_232 (rp_figA (d + 0) (q + 1) b1) rfl rfl rfl ?_
        refine Rq_if_eq_t 85 dX9_literalHere_63 (by decide) rfl ?_
        refine Rq_aload_n dX9_literalHere_85 rfl ?_
        refine Rq_iload_n dX9_literalHere_86 rfl ?_
        refine Rq_callV [_] dX9_literalHere_87 clX9_229 rfl k0 (rp_byteAt (d + 1) (by omega) hn k0 k1) rfl rfl rfl ?_
        refine Rq_bipush (48) dX9_literalHere_90 (by decide) ?_
        refine Rq_isub dX9_literalHere_92 ?_
        refine Rq_istore [_, _, _, _, _, _] dX9_literalHere_93 rfl rfl rfl ?_
        refine Rq_aload_n dX9_literalHere_95 rfl ?_
        refine Rq_iload_n dX9_literalHere_96 rfl ?_
        refine Rq_iconst (1) dX9_literalHere_97 (by decide) ?_
        refine Rq_iadd dX9_literalHere_98 ?_
        rw [nI_1, bq]
        refine Rq_put [_, _, _, _, _, _, _, _, _, _, _, _, _, _, _, _, _, _, _, _, _, _, _, _, _, _, _, _, _, _] dX9_literalHere_99 fpX9_226 k0 rfl (okv_i _) rfl ?_
        have j0 := hS (obM sm (nI n) ic nm rm hf ht rt mm il (nI (q + 1)) rdm) k0
        have j1 := hNs (e' := obM sm (nI n) ic nm rm hf ht rt mm il (nI (q + 1)) rdm) (by decide : (43 : Nat) ≠ 47) k1
        refine Rq_aload_n dX9_literalHere_102 rfl ?_
        refine Rq_aload_n dX9_literalHere_103 rfl ?_
        refine Rq_get dX9_literalHere_104 flX9_226 j0 rfl ?_
        refine Rq_callV [_] dX9_literalHere_107 clX9_229 rfl j0 (rp_byteAt (d + 1) (by omega) hn j0 j1) rfl rfl rfl ?_
        refine Rq_callS [_] dX9_literalHere_110 clX9_232 (rp_figA (d + 0) (q + 1) b1) rfl rfl rfl ?_
        refine Rq_if_eq_t 145 dX9_literalHere_113 (by decide) rfl ?_
        exact lh_end (d + 1) hqq.symm (by omega) (hS _ k0) (q + 1) rfl h rfl _ rfl
  refine Mq_of [_, _, _, _, _, _] (by decide +kernel) rfl rfl ?_
  by_cases cs : t p = 45
  · have e1 : qSt t p = p + 1 := by unfold qSt; rw [if_pos cs]
    rw [e1] at K
    rw [e1]
    refine Rq_aload_n dX9_literalHere_0 rfl ?_
    refine Rq_get dX9_literalHere_1 flX9_226 k0 rfl ?_
    refine Rq_istore_n [_, _, _, _, _, _] dX9_literalHere_4 rfl rfl rfl ?_
    refine Rq_aload_n dX9_literalHere_5 rfl ?_
    refine Rq_iload_n dX9_literalHere_6 rfl ?_
    refine Rq_callV [_] dX9_literalHere_7 clX9_229 rfl k0 (rp_byteAt (d + 1) (by omega) hn k0 k1) rfl rfl rfl ?_
    rw [bp]
    refine Rq_bipush (45) dX9_literalHere_10 (by decide) ?_
    refine Rq_icmp_ne_f 21 dX9_literalHere_12 (by decide) cs ?_
    refine Rq_iload_n dX9_literalHere_15 rfl ?_
    refine Rq_iconst (1) dX9_literalHere_16 (by decide) ?_
    refine Rq_iadd dX9_literalHere_17 ?_
    refine Rq_goto 22 dX9_literalHere_18 (by decide) ?_
    rw [nI_1]
    exact K
  · have e1 : qSt t p = p := by unfold qSt; rw [if_neg cs]
    rw [e1] at K
    rw [e1]
    refine Rq_aload_n dX9_literalHere_0 rfl ?_
    refine Rq_get dX9_literalHere_1 flX9_226 k0 rfl ?_
    refine Rq_istore_n [_, _, _, _, _, _] dX9_literalHere_4 rfl rfl rfl ?_
    refine Rq_aload_n dX9_literalHere_5 rfl ?_
    refine Rq_iload_n dX9_literalHere_6 rfl ?_
    refine Rq_callV [_] dX9_literalHere_7 clX9_229 rfl k0 (rp_byteAt (d + 1) (by omega) hn k0 k1) rfl rfl rfl ?_
    rw [bp]
    refine Rq_bipush (45) dX9_literalHere_10 (by decide) ?_
    refine Rq_icmp_ne_t 21 dX9_literalHere_12 (by decide) cs ?_
    refine Rq_iload_n dX9_literalHere_21 rfl ?_
    exact K
end RF
