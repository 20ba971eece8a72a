/-! the reference: reads -/
def fullR (c : Int32) : Bool := decide (pcN c = 4)
theorem gLit_go {bit vars : Int32 → Int32} {n : Nat} {t : Nat → Int32} {p p' : Nat} {c c' : Int32} (h : gLit bit vars n t p c = .inr (p', c')) : p < p' ∧ p' ≤ p + 3 := by
  unfold gLit at h
  generalize hq : (if t p = 45 then p + 1 else p) = q at h
  have hq2 : q ≤ p + 1 ∧ p ≤ q := by rw [← hq]; split <;> omega
  have hc := cntD_le n t q
  split at h
  · cases h
  · split at h
    · cases h
    · split at h
      · generalize (if t p = 45 then -numv t q (cntD n t q) else numv t q (cntD n t q)) = v at h
        split at h
        · cases h; omega
        · cases h
      · cases h
theorem gTok_go {full : Int32 → Bool} {bit vars : Int32 → Int32} {n : Nat} {t : Nat → Int32} {room p k p' : Nat} {c c' : Int32} {b : Bool} (e : gTok full bit vars n t room p k c = .inr (p', c', b)) : p < p' ∧ p' ≤ p + 3 := by
  unfold gTok at e
  split at e
  · cases e; omega
  · split at e
    · split at e
      · cases e
      · cases e; omega
    · split at e
      · split at e
        · cases e
        · cases hg : gLit bit vars n t p c with
          | inl e' => rw [hg] at e; cases e
          | inr w =>
            obtain ⟨p1, c1⟩ := w
            rw [hg] at e
            cases e
            exact gLit_go hg
      · cases e
section RF
variable {h h0 : Hp} {sm ic nm rm hf ht rt mm il sp rdm : Int32} {n : Nat} {t : Nat → Int32} {S : Nat → Int32}
/-- what reads leaves -/
def rsP (sm : Int32) (n : Nat) (ic nm rm hf ht rt mm il : Int32) (h0 : Hp) (g : Nat ⊕ (Nat × Int32 × (Nat → Int32))) (r : Option Value) (h' : Hp) : Prop := Fr [43, 61] h0 h' ∧ ∃ sp' rdm' rc', h'[43]? = some (obM sm (nI n) ic nm rm hf ht rt mm il sp' rdm') ∧ h'[61]? = some (aI 16 rc') ∧ match g with
  | .inl e => r = some (.int (nI e)) ∧ e < 1000
  | .inr (k, c, rc) => if c = 0 then r = some (.int (-1)) ∧ rdm' = nI k ∧ rc' = rc else r = some (.int (nI n))
theorem rp_reads_loop (d : Nat) {N : Nat} (hN : S 0 = nI N) (hN16 : N ≤ 16) (hn : n ≤ 150) : ∀ (f p k : Nat) (c : Int32) (rc : Nat → Int32) (h : Hp), n ≤ p + f → p < 160 → k ≤ 16 - N → (¬ c = 0 → k < 16 - N) → Fr [43, 61] h0 h → h[43]? = some (obM sm (nI n) ic nm rm hf ht rt mm il (nI p) (nI k)) → h[44]? = some (aI 39 S) → h[47]? = some (aI 150 t) → h[61]? = some (aI 16 rc) →
    Rq mX9_reads (d + 3) 12 [.ref 43, .int c, .retAddr 0, .retAddr 0] [] h (rsP sm n ic nm rm hf ht rt mm il h0 (gRun fullR rBit rVars n t (16 - N) f p k c rc)) := by
  intro f
  induction f with
  | zero =>
    intro p k c rc h hf0 hp hk hk2 F k0 k1 k2 k3
    unfold gRun
    by_cases cc : c = 0
    · refine Rq_aload_n dX9_reads_12 rfl ?_
      refine Rq_get dX9_reads_13 flX9_226 k0 rfl ?_
      refine Rq_aload_n dX9_reads_16 rfl ?_
      refine Rq_get dX9_reads_17 flX9_219 k0 rfl ?_
      refine Rq_icmp_ge_t 172 dX9_reads_20 (by decide) (nI_le (by omega) (by omega)) ?_
      refine Rq_iload_n dX9_reads_172 rfl ?_
      refine Rq_if_ne_f 180 dX9_reads_173 (by decide) cc ?_
      refine Rq_iconst (-1) dX9_reads_176 (by decide) ?_
      refine Rq_goto 184 dX9_reads_177 (by decide) ?_
      refine Rq_iret dX9_reads_184 rfl ?_
      exact ⟨F, _, _, rc, k0, k3, by simp only [if_pos cc]; exact ⟨trivial, trivial, trivial⟩⟩
    · refine Rq_aload_n dX9_reads_12 rfl ?_
      refine Rq_get dX9_reads_13 flX9_226 k0 rfl ?_
      refine Rq_aload_n dX9_reads_16 rfl ?_
      refine Rq_get dX9_reads_17 flX9_219 k0 rfl ?_
      refine Rq_icmp_ge_t 172 dX9_reads_20 (by decide) (nI_le (by omega) (by omega)) ?_
      refine Rq_iload_n dX9_reads_172 rfl ?_
      refine Rq_if_ne_t 180 dX9_reads_173 (by decide) cc ?_
      refine Rq_aload_n dX9_reads_180 rfl ?_
      refine Rq_get dX9_reads_181 flX9_219 k0 rfl ?_
      refine Rq_iret dX9_reads_184 rfl ?_
      exact ⟨F, _, _, rc, k0, k3, by simp only [if_neg cc]⟩
  | succ f ih =>
    intro p k c rc h hf0 hp hk hk2 F k0 k1 k2 k3
    unfold gRun
    by_cases cp : p < n
    · rw [if_pos cp]
      have bp : bAt n t p = t p := by unfold bAt; rw [if_pos cp]
      have tg := fun p' c' b => @gTok_go fullR rBit rVars n t (16 - N) p k p' c c' b
      have tr := fun p' c' b => @gTok_room fullR rBit rVars n t (16 - N) p k p' c c' b hk2
      refine Rq_aload_n dX9_reads_12 rfl ?_
      refine Rq_get dX9_reads_13 flX9_226 k0 rfl ?_
      refine Rq_aload_n dX9_reads_16 rfl ?_
      refine Rq_get dX9_reads_17 flX9_219 k0 rfl ?_
      refine Rq_icmp_ge_f 172 dX9_reads_20 (by decide) (nI_ge cp (by omega)) ?_
      refine Rq_aload_n dX9_reads_23 rfl ?_
      refine Rq_get dX9_reads_24 flX9_19 k0 rfl ?_
      refine Rq_aload_n dX9_reads_27 rfl ?_
      refine Rq_get dX9_reads_28 flX9_226 k0 rfl ?_
      refine Rq_iald p dX9_reads_31 k2 (by omega) (by decide) rfl ?_
      refine Rq_istore_n [_, _, _, _] dX9_reads_32 rfl rfl rfl ?_
      by_cases c59 : t p = 59
      · by_cases cc : c = 0
        · -- an empty clause
          have e : gTok fullR rBit rVars n t (16 - N) p k c = .inl p := by
            unfold gTok
            rw [if_neg (by rw [c59]; decide), if_pos c59, if_pos cc]
          rw [e]
          have nf : ¬ (48 ≤ t p ∧ t p ≤ 57) := by rw [c59]; decide
          refine Rq_iload_n dX9_reads_33 rfl ?_
          refine Rq_bipush (59) dX9_reads_34 (by decide) ?_
          refine Rq_icmp_ne_f 78 dX9_reads_36 (by decide) c59 ?_
          refine Rq_iload_n dX9_reads_39 rfl ?_
          refine Rq_if_eq_t 78 dX9_reads_40 (by decide) cc ?_
          refine Rq_iload_n dX9_reads_78 rfl ?_
          refine Rq_bipush (32) dX9_reads_79 (by decide) ?_
          refine Rq_icmp_ne_t 97 dX9_reads_81 (by decide) (by rw [c59]; decide) ?_
          refine Rq_iload_n dX9_reads_97 rfl ?_
          refine Rq_bipush (45) dX9_reads_98 (by decide) ?_
          refine Rq_icmp_eq_f 110 dX9_reads_100 (by decide) (by rw [c59]; decide) ?_
          refine Rq_iload_n dX9_reads_103 rfl ?_
          refine Rq_callS [_] dX9_reads_104 clX9_232 (rp_fig_f (d + 1) _ nf) rfl rfl rfl ?_
          refine Rq_if_eq_t 164 dX9_reads_107 (by decide) rfl ?_
          refine Rq_aload_n dX9_reads_164 rfl ?_
          refine Rq_get dX9_reads_165 flX9_226 k0 rfl ?_
          refine Rq_iret dX9_reads_168 rfl ?_
          exact ⟨F, _, _, rc, k0, k3, rfl, by omega⟩
        · have e : gTok fullR rBit rVars n t (16 - N) p k c = .inr (p + 1, 0, true) := by
            unfold gTok
            rw [if_neg (by rw [c59]; decide), if_pos c59, if_neg cc]
          have kr := hk2 cc
          rw [e]
          refine Rq_iload_n dX9_reads_33 rfl ?_
          refine Rq_bipush (59) dX9_reads_34 (by decide) ?_
          refine Rq_icmp_ne_f 78 dX9_reads_36 (by decide) c59 ?_
          refine Rq_iload_n dX9_reads_39 rfl ?_
          refine Rq_if_eq_f 78 dX9_reads_40 (by decide) cc ?_
          refine Rq_aload_n dX9_reads_43 rfl ?_
          refine Rq_get dX9_reads_44 flX9_62 k0 rfl ?_
          refine Rq_aload_n dX9_reads_47 rfl ?_
          refine Rq_get dX9_reads_48 flX9_235 k0 rfl ?_
          refine Rq_iload_n dX9_reads_51 rfl ?_
          refine Rq_iast k dX9_reads_52 k3 (by omega) (by decide) rfl ?_
          have a0 := hNs (e' := aI 16 (upd rc k c)) (by decide : (61 : Nat) ≠ 43) k0
          refine Rq_aload_n dX9_reads_53 rfl ?_
          refine Rq_dup dX9_reads_54 rfl ?_
          refine Rq_get dX9_reads_55 flX9_235 a0 rfl ?_
          refine Rq_iconst (1) dX9_reads_58 (by decide) ?_
          refine Rq_iadd dX9_reads_59 ?_
          refine Rq_put [_, _, _, _, _, _, _, _, _, _, _, _, _, _, _, _, _, _, _, _, _, _, _, _, _, _, _, _, _, _] dX9_reads_60 fpX9_235 a0 rfl (okv_i _) rfl ?_
          rw [nI_1]
          have b0 := hS (obM sm (nI n) ic nm rm hf ht rt mm il (nI p) (nI (k + 1))) a0
          refine Rq_iconst (0) dX9_reads_63 (by decide) ?_
          refine Rq_istore_n [_, _, _, _] dX9_reads_64 rfl rfl rfl ?_
          refine Rq_aload_n dX9_reads_65 rfl ?_
          refine Rq_dup dX9_reads_66 rfl ?_
          refine Rq_get dX9_reads_67 flX9_226 b0 rfl ?_
          refine Rq_iconst (1) dX9_reads_70 (by decide) ?_
          refine Rq_iadd dX9_reads_71 ?_
          refine Rq_put [_, _, _, _, _, _, _, _, _, _, _, _, _, _, _, _, _, _, _, _, _, _, _, _, _, _, _, _, _, _] dX9_reads_72 fpX9_226 b0 rfl (okv_i _) rfl ?_
          refine Rq_goto 169 dX9_reads_75 (by decide) ?_
          refine Rq_goto 12 dX9_reads_169 (by decide) ?_
          rw [nI_1, List.set_set]
          refine Rq_dead [_, _, .retAddr 0, _] ⟨Or.inr rfl, Or.inr rfl, Or.inl rfl, Or.inr rfl, trivial⟩ ?_
          exact ih (p + 1) (k + 1) 0 (upd rc k c) _ (by omega) (by omega) (by omega) (fun z => absurd rfl z) (F.trans (Fr.trans (Fr.set (by decide)) (Fr.set (by decide)))) (hS _ a0) (hNs (by decide) (hNs (by decide) k1)) (hNs (by decide) (hNs (by decide) k2)) (hNs (by decide) (hS _ k3))
      · by_cases c32 : t p = 32
        · have e : gTok fullR rBit rVars n t (16 - N) p k c = .inr (p + 1, c, false) := by
            unfold gTok
            rw [if_pos c32]
          rw [e]
          refine Rq_iload_n dX9_reads_33 rfl ?_
          refine Rq_bipush (59) dX9_reads_34 (by decide) ?_
          refine Rq_icmp_ne_t 78 dX9_reads_36 (by decide) c59 ?_
          refine Rq_iload_n dX9_reads_78 rfl ?_
          refine Rq_bipush (32) dX9_reads_79 (by decide) ?_
          refine Rq_icmp_ne_f 97 dX9_reads_81 (by decide) c32 ?_
          refine Rq_aload_n dX9_reads_84 rfl ?_
          refine Rq_dup dX9_reads_85 rfl ?_
          refine Rq_get dX9_reads_86 flX9_226 k0 rfl ?_
          refine Rq_iconst (1) dX9_reads_89 (by decide) ?_
          refine Rq_iadd dX9_reads_90 ?_
          refine Rq_put [_, _, _, _, _, _, _, _, _, _, _, _, _, _, _, _, _, _, _, _, _, _, _, _, _, _, _, _, _, _] dX9_reads_91 fpX9_226 k0 rfl (okv_i _) rfl ?_
          refine Rq_goto 169 dX9_reads_94 (by decide) ?_
          refine Rq_goto 12 dX9_reads_169 (by decide) ?_
          rw [nI_1]
          refine Rq_dead [_, _, .retAddr 0, _] ⟨Or.inr rfl, Or.inr rfl, Or.inl rfl, Or.inr rfl, trivial⟩ ?_
          exact ih (p + 1) k c rc _ (by omega) (by omega) hk hk2 (F.trans (Fr.set (by decide))) (hS _ k0) (hNs (by decide) k1) (hNs (by decide) k2) (hNs (by decide) k3)
        · have K : (t p = 45 ∨ digb n t p = true) → Rq mX9_reads (d + 3) 110 [.ref 43, .int c, .int (t p), .retAddr 0] [] h (rsP sm n ic nm rm hf ht rt mm il h0 (match gTok fullR rBit rVars n t (16 - N) p k c with | .inl e => .inl e | .inr (p', c', false) => gRun fullR rBit rVars n t (16 - N) f p' k c' rc | .inr (p', c', true) => gRun fullR rBit rVars n t (16 - N) f p' (k + 1) c' (upd rc k c))) := by
            intro hd
            by_cases c4 : pcN c = 4
            · have e : gTok fullR rBit rVars n t (16 - N) p k c = .inl p := by
                unfold gTok
                rw [if_neg c32, if_neg c59, if_pos hd, if_pos (Or.inl (by unfold fullR; exact decide_eq_true c4))]
              rw [e]
              refine Rq_iload_n dX9_reads_110 rfl ?_
              refine Rq_callS [_] dX9_reads_111 clX9_101 (rp_ones (d + 2) _ c) rfl rfl rfl ?_
              refine Rq_iconst (4) dX9_reads_114 (by decide) ?_
              refine Rq_icmp_eq_t 138 dX9_reads_115 (by decide) (by rw [c4]; rfl) ?_
              refine Rq_aload_n dX9_reads_138 rfl ?_
              refine Rq_get dX9_reads_139 flX9_226 k0 rfl ?_
              refine Rq_iret dX9_reads_142 rfl ?_
              exact ⟨F, _, _, rc, k0, k3, rfl, by omega⟩
            · have n4 : ¬ nI (pcN c) = 4 := fun z => c4 ((nI_eq (b := 4) (by have := pc_le c; omega) (by decide)).mp z)
              have kk : ∀ (hx : ¬ (c = 0 ∧ 16 - N ≤ k)), Rq mX9_reads (d + 3) 143 [.ref 43, .int c, .int (t p), .retAddr 0] [] h (rsP sm n ic nm rm hf ht rt mm il h0 (match gTok fullR rBit rVars n t (16 - N) p k c with | .inl e => .inl e | .inr (p', c', false) => gRun fullR rBit rVars n t (16 - N) f p' k c' rc | .inr (p', c', true) => gRun fullR rBit rVars n t (16 - N) f p' (k + 1) c' (upd rc k c))) := by
                intro hx
                have hx2 : ¬ (fullR c = true ∨ (c = 0 ∧ 16 - N ≤ k)) := fun z => z.elim (fun q => c4 (of_decide_eq_true q)) hx
                refine Rq_aload_n dX9_reads_143 rfl ?_
                refine Rq_iload_n dX9_reads_144 rfl ?_
                refine Rq_callVq [_] dX9_reads_145 clX9_238 rfl k0 (rp_litHere (d + 0) cp hn k0 k2) rfl rfl rfl (fun rv h2 hq => ?_)
                obtain ⟨sp', rfl, hq⟩ := hq
                have F2 : Fr [43, 61] h0 (h.set 43 (obM sm (nI n) ic nm rm hf ht rt mm il sp' (nI k))) := F.trans (Fr.set (by decide))
                cases hg : gLit rBit rVars n t p c with
                | inl e =>
                  have e0 : gTok fullR rBit rVars n t (16 - N) p k c = .inl e := by
                    unfold gTok
                    rw [if_neg c32, if_neg c59, if_pos hd, if_neg hx2, hg]
                  rw [hg] at hq
                  obtain ⟨rfl, he⟩ := hq
                  rw [e0]
                  have t1 : (-1 - nI e).toInt = -1 - (e : Int) := by
                    rw [fb_subI (by rw [nI_toInt (by omega), show (-1 : Int32).toInt = -1 from rfl]; omega) (by rw [nI_toInt (by omega), show (-1 : Int32).toInt = -1 from rfl]; omega), nI_toInt (by omega)]
                    rfl
                  have lt0 : -1 - nI e < 0 := by
                    rw [Int32.lt_iff_toInt_lt, t1, show (0 : Int32).toInt = 0 from rfl]
                    omega
                  have eq : (-1 : Int32) - (-1 - nI e) = nI e := by
                    apply Int32.toInt_inj.mp
                    rw [fb_subI (by rw [t1, show (-1 : Int32).toInt = -1 from rfl]; omega) (by rw [t1, show (-1 : Int32).toInt = -1 from rfl]; omega), t1, nI_toInt (by omega), show (-1 : Int32).toInt = -1 from rfl]
                    omega
                  refine Rq_istore_n [_, _, _, _] dX9_reads_148 rfl rfl rfl ?_
                  refine Rq_iload_n dX9_reads_149 rfl ?_
                  refine Rq_if_ge_f 157 dX9_reads_150 (by decide) (Int32.not_le.mpr lt0) ?_
                  refine Rq_iconst (-1) dX9_reads_153 (by decide) ?_
                  refine Rq_iload_n dX9_reads_154 rfl ?_
                  refine Rq_isub dX9_reads_155 ?_
                  refine Rq_iret dX9_reads_156 rfl ?_
                  rw [eq]
                  exact ⟨F2, _, _, rc, hS _ k0, hNs (by decide) k3, rfl, he⟩
                | inr w =>
                  obtain ⟨p', c'⟩ := w
                  have e0 : gTok fullR rBit rVars n t (16 - N) p k c = .inr (p', c', false) := by
                    unfold gTok
                    rw [if_neg c32, if_neg c59, if_pos hd, if_neg hx2, hg]
                  rw [hg] at hq
                  obtain ⟨b, rfl, hb, rfl, rfl⟩ := hq
                  have g1 := tg p' _ false e0
                  have g2 := (tr p' _ false e0).1 rfl
                  rw [e0]
                  refine Rq_istore_n [_, _, _, _] dX9_reads_148 rfl rfl rfl ?_
                  refine Rq_iload_n dX9_reads_149 rfl ?_
                  refine Rq_if_ge_t 157 dX9_reads_150 (by decide) (Int32.not_lt.mp hb) ?_
                  refine Rq_iload_n dX9_reads_157 rfl ?_
                  refine Rq_iload_n dX9_reads_158 rfl ?_
                  refine Rq_ior dX9_reads_159 ?_
                  refine Rq_istore_n [_, _, _, _] dX9_reads_160 rfl rfl rfl ?_
                  refine Rq_goto 169 dX9_reads_161 (by decide) ?_
                  refine Rq_goto 12 dX9_reads_169 (by decide) ?_
                  refine Rq_dead [_, _, .retAddr 0, .retAddr 0] ⟨Or.inr rfl, Or.inr rfl, Or.inl rfl, Or.inl rfl, trivial⟩ ?_
                  exact ih p' k (c ||| b) rc _ (by omega) (by omega) hk g2 F2 (hS _ k0) (hNs (by decide) k1) (hNs (by decide) k2) (hNs (by decide) k3)
              by_cases cc : c = 0
              · have es : S 0 + nI k = nI (N + k) := by rw [hN, nI_add]
                by_cases c16 : 16 - N ≤ k
                · have e : gTok fullR rBit rVars n t (16 - N) p k c = .inl p := by
                    unfold gTok
                    rw [if_neg c32, if_neg c59, if_pos hd, if_pos (Or.inr ⟨cc, c16⟩)]
                  rw [e]
                  refine Rq_iload_n dX9_reads_110 rfl ?_
                  refine Rq_callS [_] dX9_reads_111 clX9_101 (rp_ones (d + 2) _ c) rfl rfl rfl ?_
                  refine Rq_iconst (4) dX9_reads_114 (by decide) ?_
                  refine Rq_icmp_eq_f 138 dX9_reads_115 (by decide) n4 ?_
                  refine Rq_iload_n dX9_reads_118 rfl ?_
                  refine Rq_if_ne_f 143 dX9_reads_119 (by decide) cc ?_
                  refine Rq_aload_n dX9_reads_122 rfl ?_
                  refine Rq_get dX9_reads_123 flX9_7 k0 rfl ?_
                  refine Rq_iconst (0) dX9_reads_126 (by decide) ?_
                  refine Rq_iald 0 dX9_reads_127 k1 (by decide) (by decide) rfl ?_
                  refine Rq_aload_n dX9_reads_128 rfl ?_
                  refine Rq_get dX9_reads_129 flX9_235 k0 rfl ?_
                  refine Rq_iadd dX9_reads_132 ?_
                  refine Rq_bipush (16) dX9_reads_133 (by decide) ?_
                  refine Rq_icmp_ne_f 143 dX9_reads_135 (by decide) (by rw [es, show N + k = 16 by omega]; rfl) ?_
                  refine Rq_aload_n dX9_reads_138 rfl ?_
                  refine Rq_get dX9_reads_139 flX9_226 k0 rfl ?_
                  refine Rq_iret dX9_reads_142 rfl ?_
                  exact ⟨F, _, _, rc, k0, k3, rfl, by omega⟩
                · refine Rq_iload_n dX9_reads_110 rfl ?_
                  refine Rq_callS [_] dX9_reads_111 clX9_101 (rp_ones (d + 2) _ c) rfl rfl rfl ?_
                  refine Rq_iconst (4) dX9_reads_114 (by decide) ?_
                  refine Rq_icmp_eq_f 138 dX9_reads_115 (by decide) n4 ?_
                  refine Rq_iload_n dX9_reads_118 rfl ?_
                  refine Rq_if_ne_f 143 dX9_reads_119 (by decide) cc ?_
                  refine Rq_aload_n dX9_reads_122 rfl ?_
                  refine Rq_get dX9_reads_123 flX9_7 k0 rfl ?_
                  refine Rq_iconst (0) dX9_reads_126 (by decide) ?_
                  refine Rq_iald 0 dX9_reads_127 k1 (by decide) (by decide) rfl ?_
                  refine Rq_aload_n dX9_reads_128 rfl ?_
                  refine Rq_get dX9_reads_129 flX9_235 k0 rfl ?_
                  refine Rq_iadd dX9_reads_132 ?_
                  refine Rq_bipush (16) dX9_reads_133 (by decide) ?_
                  refine Rq_icmp_ne_t 143 dX9_reads_135 (by decide) (by rw [es]; exact fun z => absurd ((nI_eq (b := 16) (by omega) (by decide)).mp z) (by omega)) ?_
                  exact kk (fun z => c16 z.2)
              · refine Rq_iload_n dX9_reads_110 rfl ?_
                refine Rq_callS [_] dX9_reads_111 clX9_101 (rp_ones (d + 2) _ c) rfl rfl rfl ?_
                refine Rq_iconst (4) dX9_reads_114 (by decide) ?_
                refine Rq_icmp_eq_f 138 dX9_reads_115 (by decide) n4 ?_
                refine Rq_iload_n dX9_reads_118 rfl ?_
                refine Rq_if_ne_t 143 dX9_reads_119 (by decide) cc ?_
                exact kk (fun z => cc z.1)
          by_cases c45 : t p = 45
          · refine Rq_iload_n dX9_reads_33 rfl ?_
            refine Rq_bipush (59) dX9_reads_34 (by decide) ?_
            refine Rq_icmp_ne_t 78 dX9_reads_36 (by decide) c59 ?_
            refine Rq_iload_n dX9_reads_78 rfl ?_
            refine Rq_bipush (32) dX9_reads_79 (by decide) ?_
            refine Rq_icmp_ne_t 97 dX9_reads_81 (by decide) c32 ?_
            refine Rq_iload_n dX9_reads_97 rfl ?_
            refine Rq_bipush (45) dX9_reads_98 (by decide) ?_
            refine Rq_icmp_eq_t 110 dX9_reads_100 (by decide) c45 ?_
            exact K (Or.inl c45)
          · cases cd : digb n t p with
            | true =>
              have q := digb_bAt.mp cd
              rw [bp] at q
              refine Rq_iload_n dX9_reads_33 rfl ?_
              refine Rq_bipush (59) dX9_reads_34 (by decide) ?_
              refine Rq_icmp_ne_t 78 dX9_reads_36 (by decide) c59 ?_
              refine Rq_iload_n dX9_reads_78 rfl ?_
              refine Rq_bipush (32) dX9_reads_79 (by decide) ?_
              refine Rq_icmp_ne_t 97 dX9_reads_81 (by decide) c32 ?_
              refine Rq_iload_n dX9_reads_97 rfl ?_
              refine Rq_bipush (45) dX9_reads_98 (by decide) ?_
              refine Rq_icmp_eq_f 110 dX9_reads_100 (by decide) c45 ?_
              refine Rq_iload_n dX9_reads_103 rfl ?_
              refine Rq_callS [_] dX9_reads_104 clX9_232 (rp_fig_t (d + 1) _ q.1 q.2) rfl rfl rfl ?_
              refine Rq_if_eq_f 164 dX9_reads_107 (by decide) (by decide) ?_
              exact K (Or.inr cd)
            | false =>
              have nf : ¬ (48 ≤ t p ∧ t p ≤ 57) := fun z => by
                rw [← bp] at z
                rw [digb_bAt.mpr z] at cd
                cases cd
              have e : gTok fullR rBit rVars n t (16 - N) p k c = .inl p := by
                unfold gTok
                rw [if_neg c32, if_neg c59, if_neg (fun z => z.elim c45 (fun q => Bool.noConfusion (cd.symm.trans q)))]
              rw [e]
              refine Rq_iload_n dX9_reads_33 rfl ?_
              refine Rq_bipush (59) dX9_reads_34 (by decide) ?_
              refine Rq_icmp_ne_t 78 dX9_reads_36 (by decide) c59 ?_
              refine Rq_iload_n dX9_reads_78 rfl ?_
              refine Rq_bipush (32) dX9_reads_79 (by decide) ?_
              refine Rq_icmp_ne_t 97 dX9_reads_81 (by decide) c32 ?_
              refine Rq_iload_n dX9_reads_97 rfl ?_
              refine Rq_bipush (45) dX9_reads_98 (by decide) ?_
              refine Rq_icmp_eq_f 110 dX9_reads_100 (by decide) c45 ?_
              refine Rq_iload_n dX9_reads_103 rfl ?_
              refine Rq_callS [_] dX9_reads_104 clX9_232 (rp_fig_f (d + 1) _ nf) rfl rfl rfl ?_
              refine Rq_if_eq_t 164 dX9_reads_107 (by decide) rfl ?_
              refine Rq_aload_n dX9_reads_164 rfl ?_
              refine Rq_get dX9_reads_165 flX9_226 k0 rfl ?_
              refine Rq_iret dX9_reads_168 rfl ?_
              exact ⟨F, _, _, rc, k0, k3, rfl, by omega⟩
    · rw [if_neg cp]
      by_cases cc : c = 0
      · refine Rq_aload_n dX9_reads_12 rfl ?_
        refine Rq_get dX9_reads_13 flX9_226 k0 rfl ?_
        refine Rq_aload_n dX9_reads_16 rfl ?_
        refine Rq_get dX9_reads_17 flX9_219 k0 rfl ?_
        refine Rq_icmp_ge_t 172 dX9_reads_20 (by decide) (nI_le (by omega) (by omega)) ?_
        refine Rq_iload_n dX9_reads_172 rfl ?_
        refine Rq_if_ne_f 180 dX9_reads_173 (by decide) cc ?_
        refine Rq_iconst (-1) dX9_reads_176 (by decide) ?_
        refine Rq_goto 184 dX9_reads_177 (by decide) ?_
        refine Rq_iret dX9_reads_184 rfl ?_
        exact ⟨F, _, _, rc, k0, k3, by simp only [if_pos cc]; exact ⟨trivial, trivial, trivial⟩⟩
      · refine Rq_aload_n dX9_reads_12 rfl ?_
        refine Rq_get dX9_reads_13 flX9_226 k0 rfl ?_
        refine Rq_aload_n dX9_reads_16 rfl ?_
        refine Rq_get dX9_reads_17 flX9_219 k0 rfl ?_
        refine Rq_icmp_ge_t 172 dX9_reads_20 (by decide) (nI_le (by omega) (by omega)) ?_
        refine Rq_iload_n dX9_reads_172 rfl ?_
        refine Rq_if_ne_t 180 dX9_reads_173 (by decide) cc ?_
        refine Rq_aload_n dX9_reads_180 rfl ?_
        refine Rq_get dX9_reads_181 flX9_219 k0 rfl ?_
        refine Rq_iret dX9_reads_184 rfl ?_
        exact ⟨F, _, _, rc, k0, k3, by simp only [if_neg cc]⟩
theorem rp_reads (d : Nat) {N : Nat} {rc : Nat → Int32} (hN : S 0 = nI N) (hN16 : N ≤ 16) (hn : n ≤ 150) (k0 : h[43]? = some (obM sm (nI n) ic nm rm hf ht rt mm il sp rdm)) (k1 : h[44]? = some (aI 39 S)) (k2 : h[47]? = some (aI 150 t)) (k3 : h[61]? = some (aI 16 rc)) :
    Mq mX9_reads (d + 3) [.ref 43] h (rsP sm n ic nm rm hf ht rt mm il h (gRun fullR rBit rVars n t (16 - N) 150 0 0 0 rc)) := by
  refine Mq_of [_, _, _, _] (by decide +kernel) rfl rfl ?_
  refine Rq_aload_n dX9_reads_0 rfl ?_
  refine Rq_iconst (0) dX9_reads_1 (by decide) ?_
  refine Rq_put [_, _, _, _, _, _, _, _, _, _, _, _, _, _, _, _, _, _, _, _, _, _, _, _, _, _, _, _, _, _] dX9_reads_2 fpX9_235 k0 rfl (okv_i _) rfl ?_
  have a0 := hS (obM sm (nI n) ic nm rm hf ht rt mm il sp 0) k0
  refine Rq_aload_n dX9_reads_5 rfl ?_
  refine Rq_iconst (0) dX9_reads_6 (by decide) ?_
  refine Rq_put [_, _, _, _, _, _, _, _, _, _, _, _, _, _, _, _, _, _, _, _, _, _, _, _, _, _, _, _, _, _] dX9_reads_7 fpX9_226 a0 rfl (okv_i _) rfl ?_
  refine Rq_iconst (0) dX9_reads_10 (by decide) ?_
  refine Rq_istore_n [_, _, _, _] dX9_reads_11 rfl rfl rfl ?_
  rw [List.set_set]
  exact rp_reads_loop d hN hN16 hn 150 0 0 0 rc _ (by omega) (by decide) (by omega) (fun z => absurd rfl z) (Fr.set (by decide)) (hS _ k0) (hNs (by decide) k1) (hNs (by decide) k2) (hNs (by decide) k3)
end RF
