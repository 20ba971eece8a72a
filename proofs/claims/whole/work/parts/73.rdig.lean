/-! the reference's digest -/
section RF
variable {h : Hp} {S V er tx : Nat → Int32} {n sm tn : Nat}
def rDg (S er : Nat → Int32) (n sm tn : Nat) (v : Int64) : Prop := ∃ s1 r1 s2 r2 s3 r3 dd rv pt, FIN (rtK S n) s1 r1 ∧ FIN (rtK S n) s2 r2 ∧ FIN (rtK S n) s3 r3 ∧ DpR (nvR (rtK S n) + 1) (rtK S n) dd ∧ rvP (rtK S n) rv ∧ cpP (rtK S n) pt ∧
  v = dgAll er tn n (fun i => nI (pcN (S (1 + i)))) (nI (pcN (S 17 ||| S 18))) (fun i => S (19 + i)) (rNod s1) (nI (rMany s2 true)) (nI (rMany s3 false)) (nI dd) rv pt (nI (rBy S n 0)) (rWc S n 1024) (rLs S n 1024 0) sm
theorem rx_digest (d : Nat) (x : RI h S V er tx n sm tn) : Mq mX9_digest (d + 7) [.ref 43] h (fun r h' => ∃ v, rDg S er n sm tn v ∧ qR h S V er tx n sm tn (.long v) r h') := by
  have x0 := x
  obtain ⟨ic, nm, rm, hf, ht, rt, mm, il, sp, rdm, k43, k44, s0, n16, sv, sm5, k46, k47, tl, ⟨rc, k61⟩, k45, vo⟩ := x.k43
  generalize hQ : (fun r h' => ∃ v, rDg S er n sm tn v ∧ qR h S V er tx n sm tn (.long v) r h') = Q
  have K4 : ∀ a, a = dgC (fun i => S (19 + i)) (mix (dgC (fun i => nI (pcN (S (1 + i)))) (mix (mix (dgE er 4) (nI tn).toInt64) (nI n).toInt64) n) (nI (pcN (S 17 ||| S 18))).toInt64) 20 → Rq mX9_digest (d + 7) 126 [.ref 43, .long a, .retAddr 0, .retAddr 0] [] h Q := by
    intro a ha
    refine Rq_lload_n dX9_digest_126 rfl ?_
    refine Rq_aload_n dX9_digest_127 rfl ?_
    refine Rq_callVq [] dX9_digest_128 clX9_256 rfl k43 (rx_nodes (d + 1) x0) rfl rfl rfl (fun rv h1 hq => ?_)
    obtain ⟨s1, r1, f1, rfl, F1, x1⟩ := hq
    obtain ⟨_, _, _, _, _, _, _, _, _, _, a43, -⟩ := x1.k43
    refine Rq_i2l dX9_digest_131 ?_
    refine Rq_callS [_, _] dX9_digest_132 clX9_252 (rp_mixed (d + 6) _ _ _) rfl rfl rfl ?_
    refine Rq_aload_n dX9_digest_135 rfl ?_
    refine Rq_callVq [] dX9_digest_136 clX9_259 rfl a43 (rx_dnodes d x1) rfl rfl rfl (fun rv h2 hq => ?_)
    obtain ⟨s2, r2, f2, rfl, F2, x2⟩ := hq
    obtain ⟨_, _, _, _, _, _, _, _, _, _, b43, -⟩ := x2.k43
    refine Rq_i2l dX9_digest_139 ?_
    refine Rq_callS [_, _] dX9_digest_140 clX9_252 (rp_mixed (d + 6) _ _ _) rfl rfl rfl ?_
    refine Rq_aload_n dX9_digest_143 rfl ?_
    refine Rq_callVq [] dX9_digest_144 clX9_262 rfl b43 (rx_anodes d x2) rfl rfl rfl (fun rv h3 hq => ?_)
    obtain ⟨s3, r3, f3, rfl, F3, x3⟩ := hq
    obtain ⟨_, _, _, _, _, _, _, _, _, _, c43, -⟩ := x3.k43
    refine Rq_i2l dX9_digest_147 ?_
    refine Rq_callS [_, _] dX9_digest_148 clX9_252 (rp_mixed (d + 6) _ _ _) rfl rfl rfl ?_
    refine Rq_lstore_n [_, _, _, _] dX9_digest_151 rfl rfl rfl ?_
    refine Rq_lload_n dX9_digest_152 rfl ?_
    refine Rq_aload_n dX9_digest_153 rfl ?_
    refine Rq_callVq [] dX9_digest_154 clX9_265 rfl c43 (rx_depth (d + 1) x3) rfl rfl rfl (fun rv h4 hq => ?_)
    obtain ⟨dd, f4, rfl, F4, x4⟩ := hq
    obtain ⟨_, _, _, _, _, _, _, _, _, _, d43, -⟩ := x4.k43
    refine Rq_i2l dX9_digest_157 ?_
    refine Rq_callS [_, _] dX9_digest_158 clX9_252 (rp_mixed (d + 6) _ _ _) rfl rfl rfl ?_
    refine Rq_aload_n dX9_digest_161 rfl ?_
    refine Rq_callVq [] dX9_digest_162 clX9_268 rfl d43 (rx_rootv (d + 1) x4) rfl rfl rfl (fun rv h5 hq => ?_)
    obtain ⟨rvv, f5, rfl, F5, x5⟩ := hq
    obtain ⟨_, _, _, _, _, _, _, _, _, _, e43, -⟩ := x5.k43
    refine Rq_i2l dX9_digest_165 ?_
    refine Rq_callS [_, _] dX9_digest_166 clX9_252 (rp_mixed (d + 6) _ _ _) rfl rfl rfl ?_
    refine Rq_aload_n dX9_digest_169 rfl ?_
    refine Rq_callVq [] dX9_digest_170 clX9_271 rfl e43 (rx_comps (d + 1) x5) rfl rfl rfl (fun rv h6 hq => ?_)
    obtain ⟨ptv, f6, rfl, F6, x6⟩ := hq
    obtain ⟨_, _, _, _, _, _, _, _, _, _, g43, -⟩ := x6.k43
    refine Rq_i2l dX9_digest_173 ?_
    refine Rq_callS [_, _] dX9_digest_174 clX9_252 (rp_mixed (d + 6) _ _ _) rfl rfl rfl ?_
    refine Rq_lstore_n [_, _, _, _] dX9_digest_177 rfl rfl rfl ?_
    refine Rq_lload_n dX9_digest_178 rfl ?_
    refine Rq_aload_n dX9_digest_179 rfl ?_
    refine Rq_callVq [] dX9_digest_180 clX9_182 rfl g43 (rx_models (d + 3) x6) rfl rfl rfl (fun rv h7 hq => ?_)
    obtain ⟨rfl, F7, x7⟩ := hq
    obtain ⟨_, _, _, _, _, _, _, _, _, _, i43, -⟩ := x7.k43
    refine Rq_i2l dX9_digest_183 ?_
    refine Rq_callS [_, _] dX9_digest_184 clX9_252 (rp_mixed (d + 6) _ _ _) rfl rfl rfl ?_
    refine Rq_aload_n dX9_digest_187 rfl ?_
    refine Rq_callVq [] dX9_digest_188 clX9_274 rfl i43 (rx_wcount (d + 5) x7) rfl rfl rfl (fun rv h8 hq => ?_)
    obtain ⟨rfl, F8, x8⟩ := hq
    obtain ⟨_, _, _, _, _, _, _, _, _, _, j43, -⟩ := x8.k43
    refine Rq_callS [_, _] dX9_digest_191 clX9_252 (rp_mixed (d + 6) _ _ _) rfl rfl rfl ?_
    refine Rq_aload_n dX9_digest_194 rfl ?_
    refine Rq_callVq [] dX9_digest_195 clX9_278 rfl j43 (rx_least (d + 5) x8) rfl rfl rfl (fun rv h9 hq => ?_)
    obtain ⟨rfl, F9, x9⟩ := hq
    obtain ⟨_, _, _, _, _, _, _, _, _, _, l43, -⟩ := x9.k43
    refine Rq_i2l dX9_digest_198 ?_
    refine Rq_callS [_, _] dX9_digest_199 clX9_252 (rp_mixed (d + 6) _ _ _) rfl rfl rfl ?_
    refine Rq_lstore_n [_, _, _, _] dX9_digest_202 rfl rfl rfl ?_
    refine Rq_lload_n dX9_digest_203 rfl ?_
    refine Rq_aload_n dX9_digest_204 rfl ?_
    refine Rq_get dX9_digest_205 flX9_73 l43 rfl ?_
    refine Rq_i2l dX9_digest_208 ?_
    refine Rq_callS [_, _] dX9_digest_209 clX9_252 (rp_mixed (d + 6) _ _ _) rfl rfl rfl ?_
    refine Rq_lret dX9_digest_212 rfl ?_
    rw [← hQ]
    exact ⟨_, ⟨s1, r1, s2, r2, s3, r3, dd, rvv, ptv, f1, f2, f3, f4, f5, f6, by rw [ha]; rfl⟩, rfl, F1.trans (F2.trans (F3.trans (F4.trans (F5.trans (F6.trans (F7.trans (F8.trans F9))))))), x9⟩
  have K3 : ∀ (j i : Nat), i + j = 20 → Rq mX9_digest (d + 7) 99 [.ref 43, .long (dgC (fun i => S (19 + i)) (mix (dgC (fun i => nI (pcN (S (1 + i)))) (mix (mix (dgE er 4) (nI tn).toInt64) (nI n).toInt64) n) (nI (pcN (S 17 ||| S 18))).toInt64) i), .retAddr 0, .int (nI i)] [] h Q := by
    intro j
    induction j with
    | zero =>
      intro i hi
      have e : i = 20 := by omega
      subst e
      refine Rq_iload_n dX9_digest_99 rfl ?_
      refine Rq_bipush (20) dX9_digest_100 (by decide) ?_
      refine Rq_icmp_ge_t 126 dX9_digest_102 (by decide) (nI_le (a := 20) (b := 20) (Nat.le_refl _) (by decide)) ?_
      refine Rq_dead [_, _, _, .retAddr 0] ⟨Or.inr rfl, Or.inr rfl, Or.inr rfl, Or.inl rfl, trivial⟩ ?_
      exact K4 _ rfl
    | succ j ih =>
      intro i hi
      refine Rq_iload_n dX9_digest_99 rfl ?_
      refine Rq_bipush (20) dX9_digest_100 (by decide) ?_
      refine Rq_icmp_ge_f 126 dX9_digest_102 (by decide) (nI_ge (a := i) (b := 20) (by omega) (by decide)) ?_
      refine Rq_lload_n dX9_digest_105 rfl ?_
      refine Rq_aload_n dX9_digest_106 rfl ?_
      refine Rq_get dX9_digest_107 flX9_7 k43 rfl ?_
      refine Rq_bipush (19) dX9_digest_110 (by decide) ?_
      refine Rq_iload_n dX9_digest_112 rfl ?_
      refine Rq_iadd dX9_digest_113 ?_
      refine Rq_iald (19 + i) dX9_digest_114 k44 (by omega) (by decide) (nI_add 19 i) ?_
      refine Rq_i2l dX9_digest_115 ?_
      refine Rq_callS [_, _] dX9_digest_116 clX9_252 (rp_mixed (d + 6) _ _ _) rfl rfl rfl ?_
      refine Rq_lstore_n [_, _, _, _] dX9_digest_119 rfl rfl rfl ?_
      refine Rq_iinc [_, _, _, _] (1) dX9_digest_120 rfl (by decide) rfl rfl rfl ?_
      refine Rq_goto 99 dX9_digest_123 (by decide) ?_
      rw [nI_1]
      exact ih (i + 1) (by omega)
  have K2 : ∀ (j i : Nat), i + j = n → Rq mX9_digest (d + 7) 51 [.ref 43, .long (dgC (fun i => nI (pcN (S (1 + i)))) (mix (mix (dgE er 4) (nI tn).toInt64) (nI n).toInt64) i), .retAddr 0, .int (nI i)] [] h Q := by
    intro j
    induction j with
    | zero =>
      intro i hi
      have e : i = n := by omega
      subst e
      refine Rq_iload_n dX9_digest_51 rfl ?_
      refine Rq_aload_n dX9_digest_52 rfl ?_
      refine Rq_get dX9_digest_53 flX9_7 k43 rfl ?_
      refine Rq_iconst (0) dX9_digest_56 (by decide) ?_
      refine Rq_iald 0 dX9_digest_57 k44 (by decide) (by decide) rfl ?_
      refine Rq_icmp_ge_t 84 dX9_digest_58 (by decide) (by rw [s0]; exact nI_le (Nat.le_refl _) (by omega)) ?_
      refine Rq_lload_n dX9_digest_84 rfl ?_
      refine Rq_aload_n dX9_digest_85 rfl ?_
      refine Rq_callV [] dX9_digest_86 clX9_107 rfl k43 (rp_assumed (d + 6) k43 k44) rfl rfl rfl ?_
      refine Rq_callS [_] dX9_digest_89 clX9_101 (rp_ones (d + 6) h _) rfl rfl rfl ?_
      refine Rq_i2l dX9_digest_92 ?_
      refine Rq_callS [_, _] dX9_digest_93 clX9_252 (rp_mixed (d + 6) _ _ _) rfl rfl rfl ?_
      refine Rq_lstore_n [_, _, _, _] dX9_digest_96 rfl rfl rfl ?_
      refine Rq_iconst (0) dX9_digest_97 (by decide) ?_
      refine Rq_istore_n [_, _, _, _] dX9_digest_98 rfl rfl rfl ?_
      exact K3 20 0 rfl
    | succ j ih =>
      intro i hi
      refine Rq_iload_n dX9_digest_51 rfl ?_
      refine Rq_aload_n dX9_digest_52 rfl ?_
      refine Rq_get dX9_digest_53 flX9_7 k43 rfl ?_
      refine Rq_iconst (0) dX9_digest_56 (by decide) ?_
      refine Rq_iald 0 dX9_digest_57 k44 (by decide) (by decide) rfl ?_
      refine Rq_icmp_ge_f 84 dX9_digest_58 (by decide) (by rw [s0]; exact nI_ge (by omega) (by omega)) ?_
      refine Rq_lload_n dX9_digest_61 rfl ?_
      refine Rq_aload_n dX9_digest_62 rfl ?_
      refine Rq_get dX9_digest_63 flX9_7 k43 rfl ?_
      refine Rq_iconst (1) dX9_digest_66 (by decide) ?_
      refine Rq_iload_n dX9_digest_67 rfl ?_
      refine Rq_iadd dX9_digest_68 ?_
      refine Rq_iald (1 + i) dX9_digest_69 k44 (by omega) (by decide) (nI_add 1 i) ?_
      refine Rq_callS [_] dX9_digest_70 clX9_101 (rp_ones (d + 6) h _) rfl rfl rfl ?_
      refine Rq_i2l dX9_digest_73 ?_
      refine Rq_callS [_, _] dX9_digest_74 clX9_252 (rp_mixed (d + 6) _ _ _) rfl rfl rfl ?_
      refine Rq_lstore_n [_, _, _, _] dX9_digest_77 rfl rfl rfl ?_
      refine Rq_iinc [_, _, _, _] (1) dX9_digest_78 rfl (by decide) rfl rfl rfl ?_
      refine Rq_goto 51 dX9_digest_81 (by decide) ?_
      rw [nI_1]
      exact ih (i + 1) (by omega)
  have K1 : ∀ (j i : Nat), i + j = 4 → Rq mX9_digest (d + 7) 6 [.ref 43, .long (dgE er i), .retAddr 0, .int (nI i)] [] h Q := by
    intro j
    induction j with
    | zero =>
      intro i hi
      have e : i = 4 := by omega
      subst e
      refine Rq_iload_n dX9_digest_6 rfl ?_
      refine Rq_iconst (4) dX9_digest_7 (by decide) ?_
      refine Rq_icmp_ge_t 29 dX9_digest_8 (by decide) (nI_le (a := 4) (b := 4) (Nat.le_refl _) (by decide)) ?_
      refine Rq_lload_n dX9_digest_29 rfl ?_
      refine Rq_aload_n dX9_digest_30 rfl ?_
      refine Rq_get dX9_digest_31 flX9_219 k43 rfl ?_
      refine Rq_i2l dX9_digest_34 ?_
      refine Rq_callS [_, _] dX9_digest_35 clX9_252 (rp_mixed (d + 6) _ _ _) rfl rfl rfl ?_
      refine Rq_aload_n dX9_digest_38 rfl ?_
      refine Rq_get dX9_digest_39 flX9_7 k43 rfl ?_
      refine Rq_iconst (0) dX9_digest_42 (by decide) ?_
      refine Rq_iald 0 dX9_digest_43 k44 (by decide) (by decide) rfl ?_
      refine Rq_i2l dX9_digest_44 ?_
      refine Rq_callS [_, _] dX9_digest_45 clX9_252 (rp_mixed (d + 6) _ _ _) rfl rfl rfl ?_
      refine Rq_lstore_n [_, _, _, _] dX9_digest_48 rfl rfl rfl ?_
      rw [s0]
      refine Rq_iconst (0) dX9_digest_49 (by decide) ?_
      refine Rq_istore_n [_, _, _, _] dX9_digest_50 rfl rfl rfl ?_
      exact K2 n 0 (by omega)
    | succ j ih =>
      intro i hi
      refine Rq_iload_n dX9_digest_6 rfl ?_
      refine Rq_iconst (4) dX9_digest_7 (by decide) ?_
      refine Rq_icmp_ge_f 29 dX9_digest_8 (by decide) (nI_ge (a := i) (b := 4) (by omega) (by decide)) ?_
      refine Rq_lload_n dX9_digest_11 rfl ?_
      refine Rq_aload_n dX9_digest_12 rfl ?_
      refine Rq_get dX9_digest_13 flX9_16 k43 rfl ?_
      refine Rq_iload_n dX9_digest_16 rfl ?_
      refine Rq_iald i dX9_digest_17 k46 (by omega) (by decide) rfl ?_
      refine Rq_i2l dX9_digest_18 ?_
      refine Rq_callS [_, _] dX9_digest_19 clX9_252 (rp_mixed (d + 6) _ _ _) rfl rfl rfl ?_
      refine Rq_lstore_n [_, _, _, _] dX9_digest_22 rfl rfl rfl ?_
      refine Rq_iinc [_, _, _, _] (1) dX9_digest_23 rfl (by decide) rfl rfl rfl ?_
      refine Rq_goto 6 dX9_digest_26 (by decide) ?_
      rw [nI_1]
      exact ih (i + 1) (by omega)
  refine Mq_of [_, _, _, _] (by decide +kernel) rfl rfl ?_
  refine Rq_ldc2 dX9_digest_0 kcX9_250 ?_
  refine Rq_lstore_n [_, _, _, _] dX9_digest_3 rfl rfl rfl ?_
  refine Rq_iconst (0) dX9_digest_4 (by decide) ?_
  refine Rq_istore_n [_, _, _, _] dX9_digest_5 rfl rfl rfl ?_
  exact K1 4 0 rfl
end RF
