/-! one token of the text: an error's place, or where it goes on. full, bit, vars: how a clause is coded -/
def gLit (bit vars : Int32 → Int32) (n : Nat) (t : Nat → Int32) (p : Nat) (c : Int32) : Nat ⊕ (Nat × Int32) :=
  if cntD n t (if t p = 45 then p + 1 else p) = 0 then .inl (if t p = 45 then p + 1 else p)
  else if cntD n t (if t p = 45 then p + 1 else p) = 3 then .inl ((if t p = 45 then p + 1 else p) + 2)
  else if 1 ≤ numv t (if t p = 45 then p + 1 else p) (cntD n t (if t p = 45 then p + 1 else p)) ∧ numv t (if t p = 45 then p + 1 else p) (cntD n t (if t p = 45 then p + 1 else p)) ≤ 10 then
    (if vars c &&& vars (bit (if t p = 45 then -numv t (if t p = 45 then p + 1 else p) (cntD n t (if t p = 45 then p + 1 else p)) else numv t (if t p = 45 then p + 1 else p) (cntD n t (if t p = 45 then p + 1 else p)))) = 0 then
      .inr ((if t p = 45 then p + 1 else p) + cntD n t (if t p = 45 then p + 1 else p), c ||| bit (if t p = 45 then -numv t (if t p = 45 then p + 1 else p) (cntD n t (if t p = 45 then p + 1 else p)) else numv t (if t p = 45 then p + 1 else p) (cntD n t (if t p = 45 then p + 1 else p))))
    else .inl p)
  else .inl (if t p = 45 then p + 1 else p)
def gTok (full : Int32 → Bool) (bit vars : Int32 → Int32) (n : Nat) (t : Nat → Int32) (room p k : Nat) (c : Int32) : Nat ⊕ (Nat × Int32 × Bool) :=
  if t p = 32 then .inr (p + 1, c, false)
  else if t p = 59 then (if c = 0 then .inl p else .inr (p + 1, 0, true))
  else if t p = 45 ∨ digb n t p = true then
    (if full c = true ∨ (c = 0 ∧ room ≤ k) then .inl p else match gLit bit vars n t p c with
      | .inl e => .inl e
      | .inr (p', c') => .inr (p', c', false))
  else .inl p
def fullC (c : Int32) : Bool := decide (4 ≤ bcI c)
abbrev obR (k p : Nat) (c e : Int32) : va_E := .inr (0, [.ref 24, .int (nI k), .int (nI p), .int c, .int e])
def rdCell (k p : Nat) (c : Int32) (r : Nat ⊕ (Nat × Int32)) : va_E := match r with
  | .inl e => obR k p c (nI e)
  | .inr (p', c') => obR k p' c' (-1)
theorem cntD_le (n : Nat) (t : Nat → Int32) (q : Nat) : cntD n t q ≤ 3 := by unfold cntD; split <;> (try split) <;> (try split) <;> omega
theorem cntD_1 {n : Nat} {t : Nat → Int32} {q : Nat} (h : ¬ cntD n t q = 0) : dig n t q := by
  cases c : digb n t q with
  | true => exact digb_iff.mp c
  | false => exfalso; apply h; simp [cntD, c]
theorem cntD_2 {n : Nat} {t : Nat → Int32} {q : Nat} (h : cntD n t q = 2) : dig n t (q + 1) := by
  cases c : digb n t (q + 1) with
  | true => exact digb_iff.mp c
  | false => exfalso; cases c0 : digb n t q <;> simp [cntD, c, c0] at h
/-- behind the sign: q is where the digits begin -/
theorem lit_digits (d : Nat) {h : Hp} {n p q k : Nat} {t : Nat → Int32} {c : Int32} (x : TI h n t) (hr : h[23]? = some (obR k p c (-1))) (hp : p < n) (ng : Int32) (hng : ng = if t p = 45 then 1 else 0) (hq : q = if t p = 45 then p + 1 else p) (x0 x1 x2 : Int32) :
    Rx mX0_readLiteral (d + 3) 97 [.ref 23, .ref 21, .int x0, .int x1, .int x2, .int ng, .int (nI q), .retAddr 0, .retAddr 0, .retAddr 0] [] h none (h.set 23 (rdCell k p c (gLit fBit fVars n t p c))) := by
  have hn := x.2.2
  have hq2 : q ≤ n := by rw [hq]; split <;> omega
  have hcl := cntD_le n t q
  unfold gLit
  rw [← hq]
  by_cases c0 : cntD n t q = 0
  · rw [if_pos c0]
    refine Rx_aload_n dX0_readLiteral_97 rfl ?_
    refine Rx_iload dX0_readLiteral_98 rfl ?_
    refine Rx_callS [_, _] dX0_readLiteral_100 clX0_56 (sp_countDigits d x (by omega)) rfl rfl rfl ?_
    refine Rx_istore [_, _, _, _, _, _, _, _, _, _] dX0_readLiteral_103 rfl rfl rfl ?_
    rw [c0]
    refine Rx_iload dX0_readLiteral_105 rfl ?_
    refine Rx_if_eq_t 116 dX0_readLiteral_107 (by decide) rfl ?_
    refine Rx_aload_n dX0_readLiteral_116 rfl ?_
    refine Rx_iload dX0_readLiteral_117 rfl ?_
    refine Rx_if_ne_f 127 dX0_readLiteral_119 (by decide) rfl ?_
    refine Rx_iload dX0_readLiteral_122 rfl ?_
    refine Rx_goto 131 dX0_readLiteral_124 (by decide) ?_
    refine Rx_put [_, _, _, _, _] dX0_readLiteral_131 fpX0_25 hr rfl (okv_i _) rfl ?_
    exact Rx_vret dX0_readLiteral_134 rfl
  · rw [if_neg c0]
    by_cases c3 : cntD n t q = 3
    · rw [if_pos c3]
      refine Rx_aload_n dX0_readLiteral_97 rfl ?_
      refine Rx_iload dX0_readLiteral_98 rfl ?_
      refine Rx_callS [_, _] dX0_readLiteral_100 clX0_56 (sp_countDigits d x (by omega)) rfl rfl rfl ?_
      refine Rx_istore [_, _, _, _, _, _, _, _, _, _] dX0_readLiteral_103 rfl rfl rfl ?_
      rw [c3]
      refine Rx_iload dX0_readLiteral_105 rfl ?_
      refine Rx_if_eq_f 116 dX0_readLiteral_107 (by decide) (by decide) ?_
      refine Rx_iload dX0_readLiteral_110 rfl ?_
      refine Rx_iconst (2) dX0_readLiteral_112 (by decide) ?_
      refine Rx_icmp_le_f 135 dX0_readLiteral_113 (by decide) (by decide) ?_
      refine Rx_aload_n dX0_readLiteral_116 rfl ?_
      refine Rx_iload dX0_readLiteral_117 rfl ?_
      refine Rx_if_ne_t 127 dX0_readLiteral_119 (by decide) (by decide) ?_
      refine Rx_iload dX0_readLiteral_127 rfl ?_
      refine Rx_iconst (2) dX0_readLiteral_129 (by decide) ?_
      refine Rx_iadd dX0_readLiteral_130 ?_
      rw [show nI q + (2 : Int32) = nI (q + 2) from by rw [show (2 : Int32) = nI 2 from rfl, nI_add]]
      refine Rx_put [_, _, _, _, _] dX0_readLiteral_131 fpX0_25 hr rfl (okv_i _) rfl ?_
      exact Rx_vret dX0_readLiteral_134 rfl
    · rw [if_neg c3]
      have key : Rx mX0_readLiteral (d + 3) 145 [.ref 23, .ref 21, .int x0, .int x1, .int x2, .int ng, .int (nI q), .int (nI (cntD n t q)), .int (numv t q (cntD n t q)), .retAddr 0] [] h none (h.set 23 (rdCell k p c (if 1 ≤ numv t q (cntD n t q) ∧ numv t q (cntD n t q) ≤ 10 then (if fVars c &&& fVars (fBit (if t p = 45 then -numv t q (cntD n t q) else numv t q (cntD n t q))) = 0 then .inr (q + cntD n t q, c ||| fBit (if t p = 45 then -numv t q (cntD n t q) else numv t q (cntD n t q))) else .inl p) else .inl q))) := by
        generalize numv t q (cntD n t q) = v
        by_cases r1 : 1 ≤ v
        · by_cases r2 : v ≤ 10
          · rw [if_pos ⟨r1, r2⟩]
            have key2 : Rx mX0_readLiteral (d + 3) 178 [.ref 23, .ref 21, .int x0, .int x1, .int x2, .int ng, .int (nI q), .int (nI (cntD n t q)), .int v, .retAddr 0] [.int (if t p = 45 then -v else v)] h none (h.set 23 (rdCell k p c (if fVars c &&& fVars (fBit (if t p = 45 then -v else v)) = 0 then .inr (q + cntD n t q, c ||| fBit (if t p = 45 then -v else v)) else .inl p))) := by
              generalize (if t p = 45 then -v else v) = w
              refine Rx_callS [_] dX0_readLiteral_178 clX0_64 (sp_bitOf (d + 1) h w) rfl rfl rfl ?_
              refine Rx_istore [_, _, _, _, _, _, _, _, _, _] dX0_readLiteral_181 rfl rfl rfl ?_
              refine Rx_aload_n dX0_readLiteral_183 rfl ?_
              refine Rx_get dX0_readLiteral_184 flX0_22 hr rfl ?_
              refine Rx_callS [_] dX0_readLiteral_187 clX0_67 (sp_varsOf (d + 2) h c) rfl rfl rfl ?_
              refine Rx_iload dX0_readLiteral_190 rfl ?_
              refine Rx_callS [_] dX0_readLiteral_192 clX0_67 (sp_varsOf (d + 2) h (fBit w)) rfl rfl rfl ?_
              refine Rx_iand dX0_readLiteral_195 ?_
              by_cases r3 : fVars c &&& fVars (fBit w) = 0
              · rw [if_pos r3]
                refine Rx_if_eq_t 208 dX0_readLiteral_196 (by decide) r3 ?_
                refine Rx_aload_n dX0_readLiteral_208 rfl ?_
                refine Rx_dup dX0_readLiteral_209 rfl ?_
                refine Rx_get dX0_readLiteral_210 flX0_22 hr rfl ?_
                refine Rx_iload dX0_readLiteral_213 rfl ?_
                refine Rx_ior dX0_readLiteral_215 ?_
                refine Rx_put [_, _, _, _, _] dX0_readLiteral_216 fpX0_22 hr rfl (okv_i _) rfl ?_
                refine Rx_aload_n dX0_readLiteral_219 rfl ?_
                refine Rx_iload dX0_readLiteral_220 rfl ?_
                refine Rx_iload dX0_readLiteral_222 rfl ?_
                refine Rx_iadd dX0_readLiteral_224 ?_
                refine Rx_put [_, _, _, _, _] dX0_readLiteral_225 fpX0_19 (hS _ hr) rfl (okv_i _) rfl ?_
                rw [List.set_set, nI_add]
                exact Rx_vret dX0_readLiteral_228 rfl
              · rw [if_neg r3]
                refine Rx_if_eq_f 208 dX0_readLiteral_196 (by decide) r3 ?_
                refine Rx_aload_n dX0_readLiteral_199 rfl ?_
                refine Rx_aload_n dX0_readLiteral_200 rfl ?_
                refine Rx_get dX0_readLiteral_201 flX0_19 hr rfl ?_
                refine Rx_put [_, _, _, _, _] dX0_readLiteral_204 fpX0_25 hr rfl (okv_i _) rfl ?_
                exact Rx_vret dX0_readLiteral_207 rfl
            by_cases s : t p = 45
            · rw [if_pos s] at hng key2
              subst hng
              refine Rx_iload dX0_readLiteral_145 rfl ?_
              refine Rx_iconst (1) dX0_readLiteral_147 (by decide) ?_
              refine Rx_icmp_lt_f 158 dX0_readLiteral_148 (by decide) (Int32.not_lt.mpr r1) ?_
              refine Rx_iload dX0_readLiteral_151 rfl ?_
              refine Rx_bipush (10) dX0_readLiteral_153 (by decide) ?_
              refine Rx_icmp_le_t 165 dX0_readLiteral_155 (by decide) r2 ?_
              refine Rx_iload dX0_readLiteral_165 rfl ?_
              refine Rx_if_eq_f 176 dX0_readLiteral_167 (by decide) (by decide) ?_
              refine Rx_iload dX0_readLiteral_170 rfl ?_
              refine Rx_ineg dX0_readLiteral_172 ?_
              refine Rx_goto 178 dX0_readLiteral_173 (by decide) ?_
              simpa only [if_pos s] using key2
            · rw [if_neg s] at hng key2
              subst hng
              refine Rx_iload dX0_readLiteral_145 rfl ?_
              refine Rx_iconst (1) dX0_readLiteral_147 (by decide) ?_
              refine Rx_icmp_lt_f 158 dX0_readLiteral_148 (by decide) (Int32.not_lt.mpr r1) ?_
              refine Rx_iload dX0_readLiteral_151 rfl ?_
              refine Rx_bipush (10) dX0_readLiteral_153 (by decide) ?_
              refine Rx_icmp_le_t 165 dX0_readLiteral_155 (by decide) r2 ?_
              refine Rx_iload dX0_readLiteral_165 rfl ?_
              refine Rx_if_eq_t 176 dX0_readLiteral_167 (by decide) rfl ?_
              refine Rx_iload dX0_readLiteral_176 rfl ?_
              simpa only [if_neg s] using key2
          · rw [if_neg (fun z => r2 z.2)]
            refine Rx_iload dX0_readLiteral_145 rfl ?_
            refine Rx_iconst (1) dX0_readLiteral_147 (by decide) ?_
            refine Rx_icmp_lt_f 158 dX0_readLiteral_148 (by decide) (Int32.not_lt.mpr r1) ?_
            refine Rx_iload dX0_readLiteral_151 rfl ?_
            refine Rx_bipush (10) dX0_readLiteral_153 (by decide) ?_
            refine Rx_icmp_le_f 165 dX0_readLiteral_155 (by decide) r2 ?_
            refine Rx_aload_n dX0_readLiteral_158 rfl ?_
            refine Rx_iload dX0_readLiteral_159 rfl ?_
            refine Rx_put [_, _, _, _, _] dX0_readLiteral_161 fpX0_25 hr rfl (okv_i _) rfl ?_
            exact Rx_vret dX0_readLiteral_164 rfl
        · rw [if_neg (fun z => r1 z.1)]
          refine Rx_iload dX0_readLiteral_145 rfl ?_
          refine Rx_iconst (1) dX0_readLiteral_147 (by decide) ?_
          refine Rx_icmp_lt_t 158 dX0_readLiteral_148 (by decide) (Int32.not_le.mp r1) ?_
          refine Rx_aload_n dX0_readLiteral_158 rfl ?_
          refine Rx_iload dX0_readLiteral_159 rfl ?_
          refine Rx_put [_, _, _, _, _] dX0_readLiteral_161 fpX0_25 hr rfl (okv_i _) rfl ?_
          exact Rx_vret dX0_readLiteral_164 rfl
      have d1 := cntD_1 c0
      by_cases c1 : cntD n t q = 1
      · rw [c1] at key ⊢
        refine Rx_aload_n dX0_readLiteral_97 rfl ?_
        refine Rx_iload dX0_readLiteral_98 rfl ?_
        refine Rx_callS [_, _] dX0_readLiteral_100 clX0_56 (sp_countDigits d x (by omega)) rfl rfl rfl ?_
        refine Rx_istore [_, _, _, _, _, _, _, _, _, _] dX0_readLiteral_103 rfl rfl rfl ?_
        rw [c1]
        refine Rx_iload dX0_readLiteral_105 rfl ?_
        refine Rx_if_eq_f 116 dX0_readLiteral_107 (by decide) (by decide) ?_
        refine Rx_iload dX0_readLiteral_110 rfl ?_
        refine Rx_iconst (2) dX0_readLiteral_112 (by decide) ?_
        refine Rx_icmp_le_t 135 dX0_readLiteral_113 (by decide) (by decide) ?_
        refine Rx_aload_n dX0_readLiteral_135 rfl ?_
        refine Rx_iload dX0_readLiteral_136 rfl ?_
        refine Rx_iload dX0_readLiteral_138 rfl ?_
        refine Rx_callS [_, _, _] dX0_readLiteral_140 clX0_60 (sp_numberAt1 (d + 1) x d1.1) rfl rfl rfl ?_
        refine Rx_istore [_, _, _, _, _, _, _, _, _, _] dX0_readLiteral_143 rfl rfl rfl ?_
        exact key
      · have c2 : cntD n t q = 2 := by omega
        have d2 := cntD_2 c2
        rw [c2] at key ⊢
        refine Rx_aload_n dX0_readLiteral_97 rfl ?_
        refine Rx_iload dX0_readLiteral_98 rfl ?_
        refine Rx_callS [_, _] dX0_readLiteral_100 clX0_56 (sp_countDigits d x (by omega)) rfl rfl rfl ?_
        refine Rx_istore [_, _, _, _, _, _, _, _, _, _] dX0_readLiteral_103 rfl rfl rfl ?_
        rw [c2]
        refine Rx_iload dX0_readLiteral_105 rfl ?_
        refine Rx_if_eq_f 116 dX0_readLiteral_107 (by decide) (by decide) ?_
        refine Rx_iload dX0_readLiteral_110 rfl ?_
        refine Rx_iconst (2) dX0_readLiteral_112 (by decide) ?_
        refine Rx_icmp_le_t 135 dX0_readLiteral_113 (by decide) (by decide) ?_
        refine Rx_aload_n dX0_readLiteral_135 rfl ?_
        refine Rx_iload dX0_readLiteral_136 rfl ?_
        refine Rx_iload dX0_readLiteral_138 rfl ?_
        refine Rx_callS [_, _, _] dX0_readLiteral_140 clX0_60 (sp_numberAt2 (d + 1) x d2.1) rfl rfl rfl ?_
        refine Rx_istore [_, _, _, _, _, _, _, _, _, _] dX0_readLiteral_143 rfl rfl rfl ?_
        exact key
theorem lit_57 (d : Nat) {h : Hp} {n p k : Nat} {t : Nat → Int32} {c : Int32} (x : TI h n t) (hr : h[23]? = some (obR k p c (-1))) (hp : p < n) (x0 x1 x2 : Int32) :
    Rx mX0_readLiteral (d + 3) 57 [.ref 23, .ref 21, .int x0, .int x1, .int x2, .retAddr 0, .retAddr 0, .retAddr 0, .retAddr 0, .retAddr 0] [] h none (h.set 23 (rdCell k p c (gLit fBit fVars n t p c))) := by
  by_cases s : t p = 45
  · refine Rx_aload_n dX0_readLiteral_57 rfl ?_
    refine Rx_aload_n dX0_readLiteral_58 rfl ?_
    refine Rx_get dX0_readLiteral_59 flX0_19 hr rfl ?_
    refine Rx_callV [_] dX0_readLiteral_62 clX0_37 rfl x.1 (sp_byteAt (d + 2) x hp) rfl rfl rfl ?_
    refine Rx_bipush (45) dX0_readLiteral_65 (by decide) ?_
    refine Rx_icmp_ne_f 74 dX0_readLiteral_67 (by decide) s ?_
    refine Rx_iconst (1) dX0_readLiteral_70 (by decide) ?_
    refine Rx_goto 75 dX0_readLiteral_71 (by decide) ?_
    refine Rx_istore [_, _, _, _, _, _, _, _, _, _] dX0_readLiteral_75 rfl rfl rfl ?_
    refine Rx_iload dX0_readLiteral_77 rfl ?_
    refine Rx_if_eq_f 91 dX0_readLiteral_79 (by decide) (by decide) ?_
    refine Rx_aload_n dX0_readLiteral_82 rfl ?_
    refine Rx_get dX0_readLiteral_83 flX0_19 hr rfl ?_
    refine Rx_iconst (1) dX0_readLiteral_86 (by decide) ?_
    refine Rx_iadd dX0_readLiteral_87 ?_
    refine Rx_goto 95 dX0_readLiteral_88 (by decide) ?_
    rw [nI_1]
    refine Rx_istore [_, _, _, _, _, _, _, _, _, _] dX0_readLiteral_95 rfl rfl rfl ?_
    exact lit_digits d x hr hp 1 (by rw [if_pos s]) (by rw [if_pos s]) x0 x1 x2
  · refine Rx_aload_n dX0_readLiteral_57 rfl ?_
    refine Rx_aload_n dX0_readLiteral_58 rfl ?_
    refine Rx_get dX0_readLiteral_59 flX0_19 hr rfl ?_
    refine Rx_callV [_] dX0_readLiteral_62 clX0_37 rfl x.1 (sp_byteAt (d + 2) x hp) rfl rfl rfl ?_
    refine Rx_bipush (45) dX0_readLiteral_65 (by decide) ?_
    refine Rx_icmp_ne_t 74 dX0_readLiteral_67 (by decide) s ?_
    refine Rx_iconst (0) dX0_readLiteral_74 (by decide) ?_
    refine Rx_istore [_, _, _, _, _, _, _, _, _, _] dX0_readLiteral_75 rfl rfl rfl ?_
    refine Rx_iload dX0_readLiteral_77 rfl ?_
    refine Rx_if_eq_t 91 dX0_readLiteral_79 (by decide) rfl ?_
    refine Rx_aload_n dX0_readLiteral_91 rfl ?_
    refine Rx_get dX0_readLiteral_92 flX0_19 hr rfl ?_
    refine Rx_istore [_, _, _, _, _, _, _, _, _, _] dX0_readLiteral_95 rfl rfl rfl ?_
    exact lit_digits d x hr hp 0 (by rw [if_neg s]) (by rw [if_neg s]) x0 x1 x2
theorem sp_readLiteral (d : Nat) {h : Hp} {n p k room : Nat} {t : Nat → Int32} {c : Int32} (x : TI h n t) (hr : h[23]? = some (obR k p c (-1))) (hp : p < n) (hk : k ≤ 16) (hroom : room ≤ 16) :
    Mx mX0_readLiteral (d + 3) [.ref 23, .ref 21, .int (nI room)] h none (h.set 23 (rdCell k p c (if fullC c = true ∨ (c = 0 ∧ room ≤ k) then .inl p else gLit fBit fVars n t p c))) := by
  refine Mx_of [_, _, _, _, _, _, _, _, _, _] (by decide +kernel) rfl rfl ?_
  by_cases f5 : 4 ≤ bcI c
  · rw [if_pos (Or.inl (by simpa [fullC] using f5))]
    by_cases z : c = 0
    · by_cases rk : room ≤ k
      · refine Rx_aload_n dX0_readLiteral_0 rfl ?_
        refine Rx_get dX0_readLiteral_1 flX0_22 hr rfl ?_
        refine Rx_callS [_] dX0_readLiteral_4 clX0_51 (sp_bitCount (d + 2) h c) rfl rfl rfl ?_
        refine Rx_iconst (4) dX0_readLiteral_7 (by decide) ?_
        refine Rx_icmp_lt_f 15 dX0_readLiteral_8 (by decide) (Int32.not_lt.mpr f5) ?_
        refine Rx_iconst (1) dX0_readLiteral_11 (by decide) ?_
        refine Rx_goto 16 dX0_readLiteral_12 (by decide) ?_
        refine Rx_istore_n [_, _, _, _, _, _, _, _, _, _] dX0_readLiteral_16 rfl rfl rfl ?_
        refine Rx_aload_n dX0_readLiteral_17 rfl ?_
        refine Rx_get dX0_readLiteral_18 flX0_22 hr rfl ?_
        refine Rx_if_ne_f 36 dX0_readLiteral_21 (by decide) z ?_
        refine Rx_aload_n dX0_readLiteral_24 rfl ?_
        refine Rx_get dX0_readLiteral_25 flX0_15 hr rfl ?_
        refine Rx_iload_n dX0_readLiteral_28 rfl ?_
        refine Rx_icmp_lt_f 36 dX0_readLiteral_29 (by decide) (nI_nlt rk (by omega)) ?_
        refine Rx_iconst (1) dX0_readLiteral_32 (by decide) ?_
        refine Rx_goto 37 dX0_readLiteral_33 (by decide) ?_
        refine Rx_istore [_, _, _, _, _, _, _, _, _, _] dX0_readLiteral_37 rfl rfl rfl ?_
        refine Rx_iload_n dX0_readLiteral_39 rfl ?_
        refine Rx_if_ne_t 48 dX0_readLiteral_40 (by decide) (by decide) ?_
        refine Rx_aload_n dX0_readLiteral_48 rfl ?_
        refine Rx_aload_n dX0_readLiteral_49 rfl ?_
        refine Rx_get dX0_readLiteral_50 flX0_19 hr rfl ?_
        refine Rx_put [_, _, _, _, _] dX0_readLiteral_53 fpX0_25 hr rfl (okv_i _) rfl ?_
        exact Rx_vret dX0_readLiteral_56 rfl
      · refine Rx_aload_n dX0_readLiteral_0 rfl ?_
        refine Rx_get dX0_readLiteral_1 flX0_22 hr rfl ?_
        refine Rx_callS [_] dX0_readLiteral_4 clX0_51 (sp_bitCount (d + 2) h c) rfl rfl rfl ?_
        refine Rx_iconst (4) dX0_readLiteral_7 (by decide) ?_
        refine Rx_icmp_lt_f 15 dX0_readLiteral_8 (by decide) (Int32.not_lt.mpr f5) ?_
        refine Rx_iconst (1) dX0_readLiteral_11 (by decide) ?_
        refine Rx_goto 16 dX0_readLiteral_12 (by decide) ?_
        refine Rx_istore_n [_, _, _, _, _, _, _, _, _, _] dX0_readLiteral_16 rfl rfl rfl ?_
        refine Rx_aload_n dX0_readLiteral_17 rfl ?_
        refine Rx_get dX0_readLiteral_18 flX0_22 hr rfl ?_
        refine Rx_if_ne_f 36 dX0_readLiteral_21 (by decide) z ?_
        refine Rx_aload_n dX0_readLiteral_24 rfl ?_
        refine Rx_get dX0_readLiteral_25 flX0_15 hr rfl ?_
        refine Rx_iload_n dX0_readLiteral_28 rfl ?_
        refine Rx_icmp_lt_t 36 dX0_readLiteral_29 (by decide) (nI_lt (by omega) (by omega)) ?_
        refine Rx_iconst (0) dX0_readLiteral_36 (by decide) ?_
        refine Rx_istore [_, _, _, _, _, _, _, _, _, _] dX0_readLiteral_37 rfl rfl rfl ?_
        refine Rx_iload_n dX0_readLiteral_39 rfl ?_
        refine Rx_if_ne_t 48 dX0_readLiteral_40 (by decide) (by decide) ?_
        refine Rx_aload_n dX0_readLiteral_48 rfl ?_
        refine Rx_aload_n dX0_readLiteral_49 rfl ?_
        refine Rx_get dX0_readLiteral_50 flX0_19 hr rfl ?_
        refine Rx_put [_, _, _, _, _] dX0_readLiteral_53 fpX0_25 hr rfl (okv_i _) rfl ?_
        exact Rx_vret dX0_readLiteral_56 rfl
    · refine Rx_aload_n dX0_readLiteral_0 rfl ?_
      refine Rx_get dX0_readLiteral_1 flX0_22 hr rfl ?_
      refine Rx_callS [_] dX0_readLiteral_4 clX0_51 (sp_bitCount (d + 2) h c) rfl rfl rfl ?_
      refine Rx_iconst (4) dX0_readLiteral_7 (by decide) ?_
      refine Rx_icmp_lt_f 15 dX0_readLiteral_8 (by decide) (Int32.not_lt.mpr f5) ?_
      refine Rx_iconst (1) dX0_readLiteral_11 (by decide) ?_
      refine Rx_goto 16 dX0_readLiteral_12 (by decide) ?_
      refine Rx_istore_n [_, _, _, _, _, _, _, _, _, _] dX0_readLiteral_16 rfl rfl rfl ?_
      refine Rx_aload_n dX0_readLiteral_17 rfl ?_
      refine Rx_get dX0_readLiteral_18 flX0_22 hr rfl ?_
      refine Rx_if_ne_t 36 dX0_readLiteral_21 (by decide) z ?_
      refine Rx_iconst (0) dX0_readLiteral_36 (by decide) ?_
      refine Rx_istore [_, _, _, _, _, _, _, _, _, _] dX0_readLiteral_37 rfl rfl rfl ?_
      refine Rx_iload_n dX0_readLiteral_39 rfl ?_
      refine Rx_if_ne_t 48 dX0_readLiteral_40 (by decide) (by decide) ?_
      refine Rx_aload_n dX0_readLiteral_48 rfl ?_
      refine Rx_aload_n dX0_readLiteral_49 rfl ?_
      refine Rx_get dX0_readLiteral_50 flX0_19 hr rfl ?_
      refine Rx_put [_, _, _, _, _] dX0_readLiteral_53 fpX0_25 hr rfl (okv_i _) rfl ?_
      exact Rx_vret dX0_readLiteral_56 rfl
  · have f5' : ¬ fullC c = true := by simpa [fullC] using f5
    by_cases z : c = 0
    · by_cases rk : room ≤ k
      · rw [if_pos (Or.inr ⟨z, rk⟩)]
        refine Rx_aload_n dX0_readLiteral_0 rfl ?_
        refine Rx_get dX0_readLiteral_1 flX0_22 hr rfl ?_
        refine Rx_callS [_] dX0_readLiteral_4 clX0_51 (sp_bitCount (d + 2) h c) rfl rfl rfl ?_
        refine Rx_iconst (4) dX0_readLiteral_7 (by decide) ?_
        refine Rx_icmp_lt_t 15 dX0_readLiteral_8 (by decide) (Int32.not_le.mp f5) ?_
        refine Rx_iconst (0) dX0_readLiteral_15 (by decide) ?_
        refine Rx_istore_n [_, _, _, _, _, _, _, _, _, _] dX0_readLiteral_16 rfl rfl rfl ?_
        refine Rx_aload_n dX0_readLiteral_17 rfl ?_
        refine Rx_get dX0_readLiteral_18 flX0_22 hr rfl ?_
        refine Rx_if_ne_f 36 dX0_readLiteral_21 (by decide) z ?_
        refine Rx_aload_n dX0_readLiteral_24 rfl ?_
        refine Rx_get dX0_readLiteral_25 flX0_15 hr rfl ?_
        refine Rx_iload_n dX0_readLiteral_28 rfl ?_
        refine Rx_icmp_lt_f 36 dX0_readLiteral_29 (by decide) (nI_nlt rk (by omega)) ?_
        refine Rx_iconst (1) dX0_readLiteral_32 (by decide) ?_
        refine Rx_goto 37 dX0_readLiteral_33 (by decide) ?_
        refine Rx_istore [_, _, _, _, _, _, _, _, _, _] dX0_readLiteral_37 rfl rfl rfl ?_
        refine Rx_iload_n dX0_readLiteral_39 rfl ?_
        refine Rx_if_ne_f 48 dX0_readLiteral_40 (by decide) rfl ?_
        refine Rx_iload dX0_readLiteral_43 rfl ?_
        refine Rx_if_eq_f 57 dX0_readLiteral_45 (by decide) (by decide) ?_
        refine Rx_aload_n dX0_readLiteral_48 rfl ?_
        refine Rx_aload_n dX0_readLiteral_49 rfl ?_
        refine Rx_get dX0_readLiteral_50 flX0_19 hr rfl ?_
        refine Rx_put [_, _, _, _, _] dX0_readLiteral_53 fpX0_25 hr rfl (okv_i _) rfl ?_
        exact Rx_vret dX0_readLiteral_56 rfl
      · rw [if_neg (fun q => q.elim f5' (fun q => rk q.2))]
        refine Rx_aload_n dX0_readLiteral_0 rfl ?_
        refine Rx_get dX0_readLiteral_1 flX0_22 hr rfl ?_
        refine Rx_callS [_] dX0_readLiteral_4 clX0_51 (sp_bitCount (d + 2) h c) rfl rfl rfl ?_
        refine Rx_iconst (4) dX0_readLiteral_7 (by decide) ?_
        refine Rx_icmp_lt_t 15 dX0_readLiteral_8 (by decide) (Int32.not_le.mp f5) ?_
        refine Rx_iconst (0) dX0_readLiteral_15 (by decide) ?_
        refine Rx_istore_n [_, _, _, _, _, _, _, _, _, _] dX0_readLiteral_16 rfl rfl rfl ?_
        refine Rx_aload_n dX0_readLiteral_17 rfl ?_
        refine Rx_get dX0_readLiteral_18 flX0_22 hr rfl ?_
        refine Rx_if_ne_f 36 dX0_readLiteral_21 (by decide) z ?_
        refine Rx_aload_n dX0_readLiteral_24 rfl ?_
        refine Rx_get dX0_readLiteral_25 flX0_15 hr rfl ?_
        refine Rx_iload_n dX0_readLiteral_28 rfl ?_
        refine Rx_icmp_lt_t 36 dX0_readLiteral_29 (by decide) (nI_lt (by omega) (by omega)) ?_
        refine Rx_iconst (0) dX0_readLiteral_36 (by decide) ?_
        refine Rx_istore [_, _, _, _, _, _, _, _, _, _] dX0_readLiteral_37 rfl rfl rfl ?_
        refine Rx_iload_n dX0_readLiteral_39 rfl ?_
        refine Rx_if_ne_f 48 dX0_readLiteral_40 (by decide) rfl ?_
        refine Rx_iload dX0_readLiteral_43 rfl ?_
        refine Rx_if_eq_t 57 dX0_readLiteral_45 (by decide) rfl ?_
        exact lit_57 d x hr hp _ _ _
    · rw [if_neg (fun q => q.elim f5' (fun q => z q.1))]
      refine Rx_aload_n dX0_readLiteral_0 rfl ?_
      refine Rx_get dX0_readLiteral_1 flX0_22 hr rfl ?_
      refine Rx_callS [_] dX0_readLiteral_4 clX0_51 (sp_bitCount (d + 2) h c) rfl rfl rfl ?_
      refine Rx_iconst (4) dX0_readLiteral_7 (by decide) ?_
      refine Rx_icmp_lt_t 15 dX0_readLiteral_8 (by decide) (Int32.not_le.mp f5) ?_
      refine Rx_iconst (0) dX0_readLiteral_15 (by decide) ?_
      refine Rx_istore_n [_, _, _, _, _, _, _, _, _, _] dX0_readLiteral_16 rfl rfl rfl ?_
      refine Rx_aload_n dX0_readLiteral_17 rfl ?_
      refine Rx_get dX0_readLiteral_18 flX0_22 hr rfl ?_
      refine Rx_if_ne_t 36 dX0_readLiteral_21 (by decide) z ?_
      refine Rx_iconst (0) dX0_readLiteral_36 (by decide) ?_
      refine Rx_istore [_, _, _, _, _, _, _, _, _, _] dX0_readLiteral_37 rfl rfl rfl ?_
      refine Rx_iload_n dX0_readLiteral_39 rfl ?_
      refine Rx_if_ne_f 48 dX0_readLiteral_40 (by decide) rfl ?_
      refine Rx_iload dX0_readLiteral_43 rfl ?_
      refine Rx_if_eq_t 57 dX0_readLiteral_45 (by decide) rfl ?_
      exact lit_57 d x hr hp _ _ _
/-- the reader's cells behind a token -/
def tkHeap (h : Hp) (k p : Nat) (c : Int32) (rc : Nat → Int32) (r : Nat ⊕ (Nat × Int32 × Bool)) : Hp := match r with
  | .inl e => h.set 23 (obR k p c (nI e))
  | .inr (p', c', false) => h.set 23 (obR k p' c' (-1))
  | .inr (p', c', true) => (h.set 24 (aI 16 (upd rc k c))).set 23 (obR (k + 1) p' c' (-1))
theorem sp_close (d : Nat) {h : Hp} {p k : Nat} {c : Int32} {rc : Nat → Int32} (hr : h[23]? = some (obR k p c (-1))) (hc : h[24]? = some (aI 16 rc)) (hk : ¬ c = 0 → k < 16) :
    Mx mX0_closeClause d [.ref 23] h none (tkHeap h k p c rc (if c = 0 then .inl p else .inr (p + 1, 0, true))) := by
  refine Mx_of [_] (by decide +kernel) rfl rfl ?_
  by_cases z : c = 0
  · rw [if_pos z]
    refine Rx_aload_n dX0_closeClause_0 rfl ?_
    refine Rx_get dX0_closeClause_1 flX0_22 hr rfl ?_
    refine Rx_if_eq_t 16 dX0_closeClause_4 (by decide) z ?_
    refine Rx_aload_n dX0_closeClause_16 rfl ?_
    refine Rx_aload_n dX0_closeClause_17 rfl ?_
    refine Rx_get dX0_closeClause_18 flX0_19 hr rfl ?_
    refine Rx_put [_, _, _, _, _] dX0_closeClause_21 fpX0_25 hr rfl (okv_i _) rfl ?_
    exact Rx_vret dX0_closeClause_24 rfl
  · rw [if_neg z]
    have k16 := hk z
    refine Rx_aload_n dX0_closeClause_0 rfl ?_
    refine Rx_get dX0_closeClause_1 flX0_22 hr rfl ?_
    refine Rx_if_eq_f 16 dX0_closeClause_4 (by decide) z ?_
    refine Rx_aload_n dX0_closeClause_7 rfl ?_
    refine Rx_get dX0_closeClause_8 flX0_15 hr rfl ?_
    refine Rx_bipush (16) dX0_closeClause_11 (by decide) ?_
    refine Rx_icmp_lt_t 25 dX0_closeClause_13 (by decide) (nI_lt k16 (by decide)) ?_
    refine Rx_aload_n dX0_closeClause_25 rfl ?_
    refine Rx_get dX0_closeClause_26 flX0_9 hr rfl ?_
    refine Rx_aload_n dX0_closeClause_29 rfl ?_
    refine Rx_get dX0_closeClause_30 flX0_15 hr rfl ?_
    refine Rx_aload_n dX0_closeClause_33 rfl ?_
    refine Rx_get dX0_closeClause_34 flX0_22 hr rfl ?_
    refine Rx_iast k dX0_closeClause_37 hc k16 (by decide) rfl ?_
    have r1 := hNs (e' := aI 16 (upd rc k c)) (by decide : (24 : Nat) ≠ 23) hr
    refine Rx_aload_n dX0_closeClause_38 rfl ?_
    refine Rx_dup dX0_closeClause_39 rfl ?_
    refine Rx_get dX0_closeClause_40 flX0_15 r1 rfl ?_
    refine Rx_iconst (1) dX0_closeClause_43 (by decide) ?_
    refine Rx_iadd dX0_closeClause_44 ?_
    refine Rx_put [_, _, _, _, _] dX0_closeClause_45 fpX0_15 r1 rfl (okv_i _) rfl ?_
    rw [nI_1]
    have r2 := hS (obR (k + 1) p c (-1)) r1
    refine Rx_aload_n dX0_closeClause_48 rfl ?_
    refine Rx_iconst (0) dX0_closeClause_49 (by decide) ?_
    refine Rx_put [_, _, _, _, _] dX0_closeClause_50 fpX0_22 r2 rfl (okv_i _) rfl ?_
    have r3 := hS (obR (k + 1) p 0 (-1)) r2
    refine Rx_aload_n dX0_closeClause_53 rfl ?_
    refine Rx_dup dX0_closeClause_54 rfl ?_
    refine Rx_get dX0_closeClause_55 flX0_19 r3 rfl ?_
    refine Rx_iconst (1) dX0_closeClause_58 (by decide) ?_
    refine Rx_iadd dX0_closeClause_59 ?_
    refine Rx_put [_, _, _, _, _] dX0_closeClause_60 fpX0_19 r3 rfl (okv_i _) rfl ?_
    rw [nI_1, List.set_set, List.set_set]
    exact Rx_vret dX0_closeClause_63 rfl
theorem sp_readToken (d : Nat) {h : Hp} {n p k room : Nat} {t : Nat → Int32} {c : Int32} {rc : Nat → Int32} (x : TI h n t) (hr : h[23]? = some (obR k p c (-1))) (hc : h[24]? = some (aI 16 rc)) (hp : p < n) (hk : k ≤ 16) (hk2 : ¬ c = 0 → k < 16) (hroom : room ≤ 16) :
    Mx mX0_readToken (d + 4) [.ref 23, .ref 21, .int (nI room)] h none (tkHeap h k p c rc (gTok fullC fBit fVars n t room p k c)) := by
  have lit : tkHeap h k p c rc (if fullC c = true ∨ (c = 0 ∧ room ≤ k) then .inl p else match gLit fBit fVars n t p c with
      | .inl e => .inl e
      | .inr (p', c') => .inr (p', c', false)) = h.set 23 (rdCell k p c (if fullC c = true ∨ (c = 0 ∧ room ≤ k) then .inl p else gLit fBit fVars n t p c)) := by
    split
    · rfl
    · cases gLit fBit fVars n t p c <;> rfl
  refine Mx_of [_, _, _, _] (by decide +kernel) rfl rfl ?_
  unfold gTok
  by_cases s1 : t p = 32
  · rw [if_pos s1]
    refine Rx_aload_n dX0_readToken_0 rfl ?_
    refine Rx_aload_n dX0_readToken_1 rfl ?_
    refine Rx_get dX0_readToken_2 flX0_19 hr rfl ?_
    refine Rx_callV [_] dX0_readToken_5 clX0_37 rfl x.1 (sp_byteAt (d + 3) x hp) rfl rfl rfl ?_
    refine Rx_istore_n [_, _, _, _] dX0_readToken_8 rfl rfl rfl ?_
    refine Rx_iload_n dX0_readToken_9 rfl ?_
    refine Rx_bipush (32) dX0_readToken_10 (by decide) ?_
    refine Rx_icmp_ne_f 28 dX0_readToken_12 (by decide) s1 ?_
    refine Rx_aload_n dX0_readToken_15 rfl ?_
    refine Rx_dup dX0_readToken_16 rfl ?_
    refine Rx_get dX0_readToken_17 flX0_19 hr rfl ?_
    refine Rx_iconst (1) dX0_readToken_20 (by decide) ?_
    refine Rx_iadd dX0_readToken_21 ?_
    refine Rx_put [_, _, _, _, _] dX0_readToken_22 fpX0_19 hr rfl (okv_i _) rfl ?_
    rw [nI_1]
    refine Rx_goto 75 dX0_readToken_25 (by decide) ?_
    exact Rx_vret dX0_readToken_75 rfl
  · rw [if_neg s1]
    by_cases s2 : t p = 59
    · rw [if_pos s2]
      refine Rx_aload_n dX0_readToken_0 rfl ?_
      refine Rx_aload_n dX0_readToken_1 rfl ?_
      refine Rx_get dX0_readToken_2 flX0_19 hr rfl ?_
      refine Rx_callV [_] dX0_readToken_5 clX0_37 rfl x.1 (sp_byteAt (d + 3) x hp) rfl rfl rfl ?_
      refine Rx_istore_n [_, _, _, _] dX0_readToken_8 rfl rfl rfl ?_
      refine Rx_iload_n dX0_readToken_9 rfl ?_
      refine Rx_bipush (32) dX0_readToken_10 (by decide) ?_
      refine Rx_icmp_ne_t 28 dX0_readToken_12 (by decide) s1 ?_
      refine Rx_iload_n dX0_readToken_28 rfl ?_
      refine Rx_bipush (59) dX0_readToken_29 (by decide) ?_
      refine Rx_icmp_ne_f 41 dX0_readToken_31 (by decide) s2 ?_
      refine Rx_aload_n dX0_readToken_34 rfl ?_
      refine Rx_callVv [] dX0_readToken_35 clX0_41 rfl hr (sp_close (d + 3) hr hc hk2) rfl rfl rfl ?_
      refine Rx_goto 75 dX0_readToken_38 (by decide) ?_
      exact Rx_vret dX0_readToken_75 rfl
    · rw [if_neg s2]
      by_cases s3 : t p = 45
      · rw [if_pos (Or.inl s3), lit]
        refine Rx_aload_n dX0_readToken_0 rfl ?_
        refine Rx_aload_n dX0_readToken_1 rfl ?_
        refine Rx_get dX0_readToken_2 flX0_19 hr rfl ?_
        refine Rx_callV [_] dX0_readToken_5 clX0_37 rfl x.1 (sp_byteAt (d + 3) x hp) rfl rfl rfl ?_
        refine Rx_istore_n [_, _, _, _] dX0_readToken_8 rfl rfl rfl ?_
        refine Rx_iload_n dX0_readToken_9 rfl ?_
        refine Rx_bipush (32) dX0_readToken_10 (by decide) ?_
        refine Rx_icmp_ne_t 28 dX0_readToken_12 (by decide) s1 ?_
        refine Rx_iload_n dX0_readToken_28 rfl ?_
        refine Rx_bipush (59) dX0_readToken_29 (by decide) ?_
        refine Rx_icmp_ne_t 41 dX0_readToken_31 (by decide) s2 ?_
        refine Rx_iload_n dX0_readToken_41 rfl ?_
        refine Rx_bipush (45) dX0_readToken_42 (by decide) ?_
        refine Rx_icmp_eq_t 58 dX0_readToken_44 (by decide) s3 ?_
        refine Rx_aload_n dX0_readToken_58 rfl ?_
        refine Rx_aload_n dX0_readToken_59 rfl ?_
        refine Rx_iload_n dX0_readToken_60 rfl ?_
        refine Rx_callVv [_, _] dX0_readToken_61 clX0_48 rfl hr (sp_readLiteral d x hr hp hk hroom) rfl rfl rfl ?_
        refine Rx_goto 75 dX0_readToken_64 (by decide) ?_
        exact Rx_vret dX0_readToken_75 rfl
      · by_cases s4 : digb n t p = true
        · rw [if_pos (Or.inr s4), lit]
          refine Rx_aload_n dX0_readToken_0 rfl ?_
          refine Rx_aload_n dX0_readToken_1 rfl ?_
          refine Rx_get dX0_readToken_2 flX0_19 hr rfl ?_
          refine Rx_callV [_] dX0_readToken_5 clX0_37 rfl x.1 (sp_byteAt (d + 3) x hp) rfl rfl rfl ?_
          refine Rx_istore_n [_, _, _, _] dX0_readToken_8 rfl rfl rfl ?_
          refine Rx_iload_n dX0_readToken_9 rfl ?_
          refine Rx_bipush (32) dX0_readToken_10 (by decide) ?_
          refine Rx_icmp_ne_t 28 dX0_readToken_12 (by decide) s1 ?_
          refine Rx_iload_n dX0_readToken_28 rfl ?_
          refine Rx_bipush (59) dX0_readToken_29 (by decide) ?_
          refine Rx_icmp_ne_t 41 dX0_readToken_31 (by decide) s2 ?_
          refine Rx_iload_n dX0_readToken_41 rfl ?_
          refine Rx_bipush (45) dX0_readToken_42 (by decide) ?_
          refine Rx_icmp_eq_f 58 dX0_readToken_44 (by decide) s3 ?_
          refine Rx_aload_n dX0_readToken_47 rfl ?_
          refine Rx_aload_n dX0_readToken_48 rfl ?_
          refine Rx_get dX0_readToken_49 flX0_19 hr rfl ?_
          refine Rx_callV [_] dX0_readToken_52 clX0_44 rfl x.1 (sp_hasDig_t (d + 2) x (digb_iff.mp s4)) rfl rfl rfl ?_
          refine Rx_if_eq_f 67 dX0_readToken_55 (by decide) (by decide) ?_
          refine Rx_aload_n dX0_readToken_58 rfl ?_
          refine Rx_aload_n dX0_readToken_59 rfl ?_
          refine Rx_iload_n dX0_readToken_60 rfl ?_
          refine Rx_callVv [_, _] dX0_readToken_61 clX0_48 rfl hr (sp_readLiteral d x hr hp hk hroom) rfl rfl rfl ?_
          refine Rx_goto 75 dX0_readToken_64 (by decide) ?_
          exact Rx_vret dX0_readToken_75 rfl
        · rw [if_neg (fun q => q.elim s3 s4)]
          have hn := x.2.2
          refine Rx_aload_n dX0_readToken_0 rfl ?_
          refine Rx_aload_n dX0_readToken_1 rfl ?_
          refine Rx_get dX0_readToken_2 flX0_19 hr rfl ?_
          refine Rx_callV [_] dX0_readToken_5 clX0_37 rfl x.1 (sp_byteAt (d + 3) x hp) rfl rfl rfl ?_
          refine Rx_istore_n [_, _, _, _] dX0_readToken_8 rfl rfl rfl ?_
          refine Rx_iload_n dX0_readToken_9 rfl ?_
          refine Rx_bipush (32) dX0_readToken_10 (by decide) ?_
          refine Rx_icmp_ne_t 28 dX0_readToken_12 (by decide) s1 ?_
          refine Rx_iload_n dX0_readToken_28 rfl ?_
          refine Rx_bipush (59) dX0_readToken_29 (by decide) ?_
          refine Rx_icmp_ne_t 41 dX0_readToken_31 (by decide) s2 ?_
          refine Rx_iload_n dX0_readToken_41 rfl ?_
          refine Rx_bipush (45) dX0_readToken_42 (by decide) ?_
          refine Rx_icmp_eq_f 58 dX0_readToken_44 (by decide) s3 ?_
          refine Rx_aload_n dX0_readToken_47 rfl ?_
          refine Rx_aload_n dX0_readToken_48 rfl ?_
          refine Rx_get dX0_readToken_49 flX0_19 hr rfl ?_
          refine Rx_callV [_] dX0_readToken_52 clX0_44 rfl x.1 (sp_hasDig_f (d + 2) x (digb_not.mp (by simpa using s4)) (by omega)) rfl rfl rfl ?_
          refine Rx_if_eq_t 67 dX0_readToken_55 (by decide) rfl ?_
          refine Rx_aload_n dX0_readToken_67 rfl ?_
          refine Rx_aload_n dX0_readToken_68 rfl ?_
          refine Rx_get dX0_readToken_69 flX0_19 hr rfl ?_
          refine Rx_put [_, _, _, _, _] dX0_readToken_72 fpX0_25 hr rfl (okv_i _) rfl ?_
          exact Rx_vret dX0_readToken_75 rfl
