/-! CnfCompiler's methods: explanation, text, parse, undo, errorCount, digest -/
/-- what explanation answers at the index -1 (none) or j -/
def exAns (o : Option (List Nat)) (ix : Option Nat) : Int32 := match o, ix with
  | none, none => -1
  | none, some _ => 0
  | some l, none => nI l.length
  | some l, some j => if j < l.length then fLit (nI (l.getD j 0)) else 0
def ixI (ix : Option Nat) : Int32 := match ix with
  | none => -1
  | some j => nI j
section API
variable {h : Hp} {n : Nat} {as : Int32} {cs w : Nat → Int32} {k : Nat} {sv : Nat → SC} {er : Nat → Int32} {tn : Nat} {tx : Nat → Int32}
theorem cx_expl_oor (d0 : Nat) {a i : Int32} (x : CI h n as cs w k sv er tn tx) (hc : ¬ (isLitP a ∧ ¬ i < -1 ∧ i < 3)) : Mq mX8_explanation (d0 + 2) [.ref 0, .int a, .int i] h (qErr h n as cs w k sv (upd er 0 (er 0 + 1)) tn tx (-102)) := by
  have y := x.fail (upd er 0 (er 0 + 1))
  obtain ⟨gf, mf, h0, s, -, -, -, -, -, -, -, -, -, -, h42⟩ := x
  have K : Rq mX8_explanation (d0 + 2) 17 [.ref 0, .int a, .int i] [] h (qErr h n as cs w k sv (upd er 0 (er 0 + 1)) tn tx (-102)) := by
    refine Rq_aload_n dX8_explanation_17 rfl ?_
    refine Rq_bipush (-2) dX8_explanation_18 (by decide) ?_
    refine Rq_callV [_] dX8_explanation_20 clX8_83 rfl h0 (sp_fail d0 0 (by decide) (-2) (by decide) h0 h42) rfl rfl rfl ?_
    refine Rq_pop dX8_explanation_23 rfl ?_
    refine Rq_bipush (-102) dX8_explanation_24 (by decide) ?_
    refine Rq_iret dX8_explanation_26 rfl ?_
    exact ⟨rfl, y.2, y.1⟩
  refine Mq_of [_, _, _] (by decide +kernel) rfl rfl ?_
  by_cases c1 : isLitP a
  · by_cases c2 : i < -1
    · refine Rq_iload_n dX8_explanation_0 rfl ?_
      refine Rq_callS [_] dX8_explanation_1 clX8_76 (sp_isLit d0 h c1) rfl rfl rfl ?_
      refine Rq_if_eq_f 17 dX8_explanation_4 (by decide) (by decide) ?_
      refine Rq_iload_n dX8_explanation_7 rfl ?_
      refine Rq_iconst (-1) dX8_explanation_8 (by decide) ?_
      refine Rq_icmp_lt_t 17 dX8_explanation_9 (by decide) c2 ?_
      exact K
    · have c3 : ¬ i < 3 := fun z => hc ⟨c1, c2, z⟩
      refine Rq_iload_n dX8_explanation_0 rfl ?_
      refine Rq_callS [_] dX8_explanation_1 clX8_76 (sp_isLit d0 h c1) rfl rfl rfl ?_
      refine Rq_if_eq_f 17 dX8_explanation_4 (by decide) (by decide) ?_
      refine Rq_iload_n dX8_explanation_7 rfl ?_
      refine Rq_iconst (-1) dX8_explanation_8 (by decide) ?_
      refine Rq_icmp_lt_f 17 dX8_explanation_9 (by decide) c2 ?_
      refine Rq_iload_n dX8_explanation_12 rfl ?_
      refine Rq_iconst (3) dX8_explanation_13 (by decide) ?_
      refine Rq_icmp_lt_f 27 dX8_explanation_14 (by decide) c3 ?_
      exact K
  · refine Rq_iload_n dX8_explanation_0 rfl ?_
    refine Rq_callS [_] dX8_explanation_1 clX8_76 (sp_isLitN d0 h c1) rfl rfl rfl ?_
    refine Rq_if_eq_t 17 dX8_explanation_4 (by decide) rfl ?_
    exact K
theorem cx_expl (d0 : Nat) {a : Int32} {ix : Option Nat} (x : CI h n as cs w k sv er tn tx) (hc : isLitP a) (hi : ∀ j, ix = some j → j < 3) : Mq mX8_explanation (d0 + 7) [.ref 0, .int a, .int (ixI ix)] h (qK h n as cs w k sv er tn tx (.int (exAns (explW (gW cs n as) as (cdN a)) ix))) := by
  have x0 := x
  obtain ⟨gf, mf, h0, s, hn, hi0, hk, hsv, ti, rd, cg, cm, wi, ⟨ex, us, g, fs, e38, ce⟩, h42⟩ := x
  obtain ⟨c1, c2, c3⟩ := cd_ok hc
  have z1 : ¬ ixI ix < -1 := by
    cases ix with
    | none => decide
    | some j =>
      have : ∀ j : Nat, j < 3 → ¬ nI j < -1 := by decide
      exact this j (hi j rfl)
  have z2 : ixI ix < 3 := by
    cases ix with
    | none => decide
    | some j =>
      have : ∀ j : Nat, j < 3 → nI j < 3 := by decide
      exact this j (hi j rfl)
  have K : ∀ (h3 : Hp), FC h h3 → CI h3 n as cs w k sv er tn tx → EH h3 (cdN a) (explW (gW cs n as) as (cdN a)) → Rq mX8_explanation (d0 + 7) 63 [.ref 0, .int a, .int (ixI ix)] [] h3 (qK h n as cs w k sv er tn tx (.int (exAns (explW (gW cs n as) as (cdN a)) ix))) := by
    intro h3 F y eh
    have y0 := y
    obtain ⟨gf3, mf3, k0, -⟩ := y0
    generalize explW (gW cs n as) as (cdN a) = o at eh ⊢
    obtain ⟨us', ch, k41, eh⟩ := eh
    cases o with
    | none =>
      simp only at eh
      cases ix with
      | none =>
        refine Rq_iload_n dX8_explanation_63 rfl ?_
        refine Rq_iconst (-1) dX8_explanation_64 (by decide) ?_
        refine Rq_icmp_ne_f 78 dX8_explanation_65 (by decide) rfl ?_
        refine Rq_aload_n dX8_explanation_68 rfl ?_
        refine Rq_get dX8_explanation_69 flX8_61 k0 rfl ?_
        refine Rq_get dX8_explanation_72 flX8_189 eh rfl ?_
        refine Rq_goto 86 dX8_explanation_75 (by decide) ?_
        refine Rq_iret dX8_explanation_86 rfl ?_
        exact ⟨rfl, F, y⟩
      | some j =>
        have hj := hi j rfl
        have nj : ∀ j : Nat, j < 3 → ¬ nI j = -1 := by decide
        have nj2 : ∀ j : Nat, j < 3 → -1 ≤ nI j := by decide
        refine Rq_iload_n dX8_explanation_63 rfl ?_
        refine Rq_iconst (-1) dX8_explanation_64 (by decide) ?_
        refine Rq_icmp_ne_t 78 dX8_explanation_65 (by decide) (nj j hj) ?_
        refine Rq_aload_n dX8_explanation_78 rfl ?_
        refine Rq_get dX8_explanation_79 flX8_61 k0 rfl ?_
        refine Rq_iload_n dX8_explanation_82 rfl ?_
        refine Rq_callV [_] dX8_explanation_83 clX8_192 rfl eh (sp_exLit_f (d0 + 6) eh hj (nj2 j hj)) rfl rfl rfl ?_
        refine Rq_iret dX8_explanation_86 rfl ?_
        exact ⟨rfl, F, y⟩
    | some l =>
      obtain ⟨k38, ll, hl⟩ := eh
      cases ix with
      | none =>
        refine Rq_iload_n dX8_explanation_63 rfl ?_
        refine Rq_iconst (-1) dX8_explanation_64 (by decide) ?_
        refine Rq_icmp_ne_f 78 dX8_explanation_65 (by decide) rfl ?_
        refine Rq_aload_n dX8_explanation_68 rfl ?_
        refine Rq_get dX8_explanation_69 flX8_61 k0 rfl ?_
        refine Rq_get dX8_explanation_72 flX8_189 k38 rfl ?_
        refine Rq_goto 86 dX8_explanation_75 (by decide) ?_
        refine Rq_iret dX8_explanation_86 rfl ?_
        exact ⟨rfl, F, y⟩
      | some j =>
        have hj := hi j rfl
        have nj : ∀ j : Nat, j < 3 → ¬ nI j = -1 := by decide
        by_cases cl : j < l.length
        · refine Rq_iload_n dX8_explanation_63 rfl ?_
          refine Rq_iconst (-1) dX8_explanation_64 (by decide) ?_
          refine Rq_icmp_ne_t 78 dX8_explanation_65 (by decide) (nj j hj) ?_
          refine Rq_aload_n dX8_explanation_78 rfl ?_
          refine Rq_get dX8_explanation_79 flX8_61 k0 rfl ?_
          refine Rq_iload_n dX8_explanation_82 rfl ?_
          refine Rq_callV [_] dX8_explanation_83 clX8_192 rfl k38 (sp_exLit_t (d0 + 5) k38 k41 cl ll) rfl rfl rfl ?_
          refine Rq_iret dX8_explanation_86 rfl ?_
          refine ⟨?_, F, y⟩
          simp only [exAns, if_pos cl]
          rw [hl j cl]
        · refine Rq_iload_n dX8_explanation_63 rfl ?_
          refine Rq_iconst (-1) dX8_explanation_64 (by decide) ?_
          refine Rq_icmp_ne_t 78 dX8_explanation_65 (by decide) (nj j hj) ?_
          refine Rq_aload_n dX8_explanation_78 rfl ?_
          refine Rq_get dX8_explanation_79 flX8_61 k0 rfl ?_
          refine Rq_iload_n dX8_explanation_82 rfl ?_
          refine Rq_callV [_] dX8_explanation_83 clX8_192 rfl k38 (sp_exLit_f (d0 + 6) k38 hj (nI_le (by omega) (by omega))) rfl rfl rfl ?_
          refine Rq_iret dX8_explanation_86 rfl ?_
          refine ⟨?_, F, y⟩
          simp only [exAns, if_neg cl]
  refine Mq_of [_, _, _] (by decide +kernel) rfl rfl ?_
  by_cases cg1 : g = fCode a
  · refine Rq_iload_n dX8_explanation_0 rfl ?_
    refine Rq_callS [_] dX8_explanation_1 clX8_76 (sp_isLit (d0 + 5) h hc) rfl rfl rfl ?_
    refine Rq_if_eq_f 17 dX8_explanation_4 (by decide) (by decide) ?_
    refine Rq_iload_n dX8_explanation_7 rfl ?_
    refine Rq_iconst (-1) dX8_explanation_8 (by decide) ?_
    refine Rq_icmp_lt_f 17 dX8_explanation_9 (by decide) z1 ?_
    refine Rq_iload_n dX8_explanation_12 rfl ?_
    refine Rq_iconst (3) dX8_explanation_13 (by decide) ?_
    refine Rq_icmp_lt_t 27 dX8_explanation_14 (by decide) z2 ?_
    refine Rq_aload_n dX8_explanation_27 rfl ?_
    refine Rq_get dX8_explanation_28 flX8_61 h0 rfl ?_
    refine Rq_get dX8_explanation_31 flX8_182 e38 rfl ?_
    refine Rq_iload_n dX8_explanation_34 rfl ?_
    refine Rq_callS [_] dX8_explanation_35 clX8_129 (sp_codeOf (d0 + 6) h a) rfl rfl rfl ?_
    refine Rq_icmp_eq_t 63 dX8_explanation_38 (by decide) cg1 ?_
    refine K h (FC.rf h) x0 ?_
    rw [c1] at cg1
    rcases ce with ce | ⟨c, q1, q2, q3, q4⟩
    · exfalso
      rw [cg1] at ce
      have : ∀ j : Nat, j < 22 → ¬ nI j = -1 := by decide
      exact this _ (by omega) ce
    · have e : c = cdN a := (nI_eq (by omega) (by omega)).mp (q3.symm.trans cg1)
      rw [← e]
      exact q4
  · refine Rq_iload_n dX8_explanation_0 rfl ?_
    refine Rq_callS [_] dX8_explanation_1 clX8_76 (sp_isLit (d0 + 5) h hc) rfl rfl rfl ?_
    refine Rq_if_eq_f 17 dX8_explanation_4 (by decide) (by decide) ?_
    refine Rq_iload_n dX8_explanation_7 rfl ?_
    refine Rq_iconst (-1) dX8_explanation_8 (by decide) ?_
    refine Rq_icmp_lt_f 17 dX8_explanation_9 (by decide) z1 ?_
    refine Rq_iload_n dX8_explanation_12 rfl ?_
    refine Rq_iconst (3) dX8_explanation_13 (by decide) ?_
    refine Rq_icmp_lt_t 27 dX8_explanation_14 (by decide) z2 ?_
    refine Rq_aload_n dX8_explanation_27 rfl ?_
    refine Rq_get dX8_explanation_28 flX8_61 h0 rfl ?_
    refine Rq_get dX8_explanation_31 flX8_182 e38 rfl ?_
    refine Rq_iload_n dX8_explanation_34 rfl ?_
    refine Rq_callS [_] dX8_explanation_35 clX8_129 (sp_codeOf (d0 + 6) h a) rfl rfl rfl ?_
    refine Rq_icmp_eq_f 63 dX8_explanation_38 (by decide) cg1 ?_
    refine Rq_aload_n dX8_explanation_41 rfl ?_
    refine Rq_get dX8_explanation_42 flX8_61 h0 rfl ?_
    refine Rq_iload_n dX8_explanation_45 rfl ?_
    refine Rq_callS [_] dX8_explanation_46 clX8_129 (sp_codeOf (d0 + 6) h a) rfl rfl rfl ?_
    refine Rq_aload_n dX8_explanation_49 rfl ?_
    refine Rq_callVq [] dX8_explanation_50 clX8_159 rfl h0 (sp_freshModels (d0 + 3) x0) rfl rfl rfl (fun rv h3 hq => ?_)
    obtain ⟨rfl, F, y, -, f, m, hf⟩ := hq
    obtain ⟨gf, mf, k0, s, hn, hi0, hk, hsv, ti, rd, cg, cm, wi, ⟨ex, us, g, fs, e38, ce⟩, h42⟩ := y
    rw [c1]
    refine Rq_aload_n dX8_explanation_53 rfl ?_
    refine Rq_get dX8_explanation_54 flX8_12 k0 rfl ?_
    refine Rq_get dX8_explanation_57 flX8_123 s.1 rfl ?_
    refine Rq_callVq [_, _, _] dX8_explanation_60 clX8_185 rfl e38 (sp_explain d0 c2 c3 m ex) rfl rfl rfl (fun rv h4 hq => ?_)
    obtain ⟨rfl, F2, ex', eh⟩ := hq
    rw [explW_congF hf] at eh
    obtain ⟨q, hi'⟩ := hi0
    have eh0 := eh
    refine K h4 (F.trans (F2.c (by decide))) ⟨gf, mf, F2.at (by decide) k0, s.ag (F2.ag (by decide)), hn, ⟨q, hi'.ag (F2.ag (by decide))⟩, hk, hsv, ti.ag (F2.ag (by decide)), rd.ag (F2.ag (by decide)), cg.fr F2 (by decide), cm.ag (F2.ag (by decide)), wi.ag (F2.ag (by decide)), ⟨ex', ?_⟩, F2.at (by decide) h42⟩ eh
    obtain ⟨us', ch, k41, eh⟩ := eh0
    have eh1 : EH h4 (cdN a) (explW (gW cs n as) as (cdN a)) := ⟨us', ch, k41, eh⟩
    generalize ho : explW (gW cs n as) as (cdN a) = o at eh eh1
    cases o with
    | none => exact ⟨us', _, _, eh, Or.inr ⟨cdN a, c2, c3, rfl, by rw [ho]; exact eh1⟩⟩
    | some l => exact ⟨us', _, _, eh.1, Or.inr ⟨cdN a, c2, c3, rfl, by rw [ho]; exact eh1⟩⟩
theorem cx_app_oor (d0 : Nat) {v : Int32} (x : CI h n as cs w k sv er tn tx) (hc : ¬ (¬ v < 0 ∧ v ≤ 127)) : Mq mX8_append (d0 + 2) [.ref 0, .int v] h (qErr h n as cs w k sv (upd er 0 (er 0 + 1)) tn tx (-2)) := by
  have y := x.fail (upd er 0 (er 0 + 1))
  obtain ⟨gf, mf, h0, s, -, -, -, -, -, -, -, -, -, -, h42⟩ := x
  have K : Rq mX8_append (d0 + 2) 10 [.ref 0, .int v] [] h (qErr h n as cs w k sv (upd er 0 (er 0 + 1)) tn tx (-2)) := by
    refine Rq_aload_n dX8_append_10 rfl ?_
    refine Rq_bipush (-2) dX8_append_11 (by decide) ?_
    refine Rq_callV [_] dX8_append_13 clX8_83 rfl h0 (sp_fail d0 0 (by decide) (-2) (by decide) h0 h42) rfl rfl rfl ?_
    refine Rq_iret dX8_append_16 rfl ?_
    exact ⟨rfl, y.2, y.1⟩
  refine Mq_of [_, _] (by decide +kernel) rfl rfl ?_
  by_cases c2 : v < 0
  · refine Rq_iload_n dX8_append_0 rfl ?_
    refine Rq_if_lt_t 10 dX8_append_1 (by decide) c2 ?_
    exact K
  · have c3 : ¬ v ≤ 127 := fun z => hc ⟨c2, z⟩
    refine Rq_iload_n dX8_append_0 rfl ?_
    refine Rq_if_lt_f 10 dX8_append_1 (by decide) c2 ?_
    refine Rq_iload_n dX8_append_4 rfl ?_
    refine Rq_bipush (127) dX8_append_5 (by decide) ?_
    refine Rq_icmp_le_f 17 dX8_append_7 (by decide) c3 ?_
    exact K
theorem cx_app_full (d0 : Nat) {v : Int32} (x : CI h n as cs w k sv er tn tx) (h1 : ¬ v < 0) (h2 : v ≤ 127) (hn : tn = 150) : Mq mX8_append (d0 + 2) [.ref 0, .int v] h (qErr h n as cs w k sv (upd er 2 (er 2 + 1)) tn tx (-4)) := by
  have y := x.fail (upd er 2 (er 2 + 1))
  obtain ⟨gf, mf, h0, s, -, -, -, -, ti, -, -, -, -, -, h42⟩ := x
  refine Mq_of [_, _] (by decide +kernel) rfl rfl ?_
  refine Rq_iload_n dX8_append_0 rfl ?_
  refine Rq_if_lt_f 10 dX8_append_1 (by decide) h1 ?_
  refine Rq_iload_n dX8_append_4 rfl ?_
  refine Rq_bipush (127) dX8_append_5 (by decide) ?_
  refine Rq_icmp_le_t 17 dX8_append_7 (by decide) h2 ?_
  refine Rq_aload_n dX8_append_17 rfl ?_
  refine Rq_get dX8_append_18 flX8_26 h0 rfl ?_
  refine Rq_get dX8_append_21 flX8_195 ti.1 rfl ?_
  refine Rq_sipush (150) dX8_append_24 (by decide) ?_
  refine Rq_icmp_lt_f 37 dX8_append_27 (by decide) (by subst hn; exact nI_nlt (b := 150) (a := 150) (Nat.le_refl _) (by decide)) ?_
  refine Rq_aload_n dX8_append_30 rfl ?_
  refine Rq_bipush (-4) dX8_append_31 (by decide) ?_
  refine Rq_callV [_] dX8_append_33 clX8_83 rfl h0 (sp_fail d0 2 (by decide) (-4) (by decide) h0 h42) rfl rfl rfl ?_
  refine Rq_iret dX8_append_36 rfl ?_
  exact ⟨rfl, y.2, y.1⟩
theorem CI.txt (x : CI h n as cs w k sv er tn tx) {h' : Hp} {tn' : Nat} {tx' : Nat → Int32} (F : Fr [21, 22] h h') (ti : TI h' tn' tx') : CI h' n as cs w k sv er tn' tx' ∧ FC h h' := by
  obtain ⟨gf, mf, h0, s, hn, ⟨q, hi⟩, hk, hsv, -, rd, cg, cm, wi, ce, h42⟩ := x
  exact ⟨⟨gf, mf, F.at (by decide) h0, s.ag (F.ag (by decide)), hn, ⟨q, hi.ag (F.ag (by decide))⟩, hk, hsv, ti, rd.ag (F.ag (by decide)), cg.fr F (by decide), cm.ag (F.ag (by decide)), wi.ag (F.ag (by decide)), ce.ag (F.ag (by decide)), F.at (by decide) h42⟩, F.c (by decide)⟩
theorem cx_app (d0 : Nat) {v : Int32} (x : CI h n as cs w k sv er tn tx) (h1 : ¬ v < 0) (h2 : v ≤ 127) (hn : tn < 150) : Mq mX8_append (d0 + 2) [.ref 0, .int v] h (qK h n as cs w k sv er (tn + 1) (upd tx tn v) (.int (nI (tn + 1)))) := by
  have x0 := x
  obtain ⟨gf, mf, h0, s, -, -, -, -, ti, -⟩ := x
  refine Mq_of [_, _] (by decide +kernel) rfl rfl ?_
  refine Rq_iload_n dX8_append_0 rfl ?_
  refine Rq_if_lt_f 10 dX8_append_1 (by decide) h1 ?_
  refine Rq_iload_n dX8_append_4 rfl ?_
  refine Rq_bipush (127) dX8_append_5 (by decide) ?_
  refine Rq_icmp_le_t 17 dX8_append_7 (by decide) h2 ?_
  refine Rq_aload_n dX8_append_17 rfl ?_
  refine Rq_get dX8_append_18 flX8_26 h0 rfl ?_
  refine Rq_get dX8_append_21 flX8_195 ti.1 rfl ?_
  refine Rq_sipush (150) dX8_append_24 (by decide) ?_
  refine Rq_icmp_lt_t 37 dX8_append_27 (by decide) (nI_lt (b := 150) hn (by decide)) ?_
  refine Rq_aload_n dX8_append_37 rfl ?_
  refine Rq_get dX8_append_38 flX8_26 h0 rfl ?_
  refine Rq_iload_n dX8_append_41 rfl ?_
  refine Rq_callVv [_] dX8_append_42 clX8_198 rfl ti.1 (sp_addByte (d0 + 1) ti hn v) rfl rfl rfl ?_
  have F : Fr [21, 22] h ((h.set 22 (aI 150 (upd tx tn v))).set 21 (obT (tn + 1))) := Fr.trans (Fr.set (by decide)) (Fr.set (by decide))
  have t1 : TI ((h.set 22 (aI 150 (upd tx tn v))).set 21 (obT (tn + 1))) (tn + 1) (upd tx tn v) := ⟨hS _ (hNs (by decide) ti.1), hNs (by decide) (hS _ ti.2.1), by omega⟩
  have k0 := F.at (by decide) h0
  refine Rq_aload_n dX8_append_45 rfl ?_
  refine Rq_get dX8_append_46 flX8_26 k0 rfl ?_
  refine Rq_get dX8_append_49 flX8_195 t1.1 rfl ?_
  refine Rq_iret dX8_append_52 rfl ?_
  obtain ⟨y1, y2⟩ := x0.txt F t1
  exact ⟨rfl, y2, y1⟩
theorem cx_clr (d0 : Nat) (x : CI h n as cs w k sv er tn tx) : Mq mX8_clearText d0 [.ref 0] h (qK h n as cs w k sv er 0 tx (.int (nI tn))) := by
  have x0 := x
  obtain ⟨gf, mf, h0, s, -, -, -, -, ti, -⟩ := x
  refine Mq_of [_, _] (by decide +kernel) rfl rfl ?_
  refine Rq_aload_n dX8_clearText_0 rfl ?_
  refine Rq_get dX8_clearText_1 flX8_26 h0 rfl ?_
  refine Rq_get dX8_clearText_4 flX8_195 ti.1 rfl ?_
  refine Rq_istore_n [_, _] dX8_clearText_7 rfl rfl rfl ?_
  refine Rq_aload_n dX8_clearText_8 rfl ?_
  refine Rq_get dX8_clearText_9 flX8_26 h0 rfl ?_
  refine Rq_iconst (0) dX8_clearText_12 (by decide) ?_
  refine Rq_put [_, _] dX8_clearText_13 fpX8_195 ti.1 rfl (okv_i _) rfl ?_
  refine Rq_iload_n dX8_clearText_16 rfl ?_
  refine Rq_iret dX8_clearText_17 rfl ?_
  have F : Fr [21, 22] h (h.set 21 (obT 0)) := Fr.set (by decide)
  have t1 : TI (h.set 21 (obT 0)) 0 tx := ⟨hS _ ti.1, hNs (by decide) ti.2.1, by omega⟩
  obtain ⟨y1, y2⟩ := x0.txt F t1
  exact ⟨rfl, y2, y1⟩
theorem cx_ec_oor (d0 : Nat) {v : Int32} (x : CI h n as cs w k sv er tn tx) (hc : ¬ (-6 < v ∧ v ≤ -2)) : Mq mX8_errorCount (d0 + 2) [.ref 0, .int v] h (qErr h n as cs w k sv (upd er 0 (er 0 + 1)) tn tx (-2)) := by
  have y := x.fail (upd er 0 (er 0 + 1))
  obtain ⟨gf, mf, h0, s, -, -, -, -, -, -, -, -, -, -, h42⟩ := x
  refine Mq_of [_, _] (by decide +kernel) rfl rfl ?_
  refine Rq_iload_n dX8_errorCount_0 rfl ?_
  refine Rq_callS [_] dX8_errorCount_1 clX8_215 (sp_isErr_f (d0 + 1) h hc) rfl rfl rfl ?_
  refine Rq_if_ne_f 14 dX8_errorCount_4 (by decide) rfl ?_
  refine Rq_aload_n dX8_errorCount_7 rfl ?_
  refine Rq_bipush (-2) dX8_errorCount_8 (by decide) ?_
  refine Rq_callV [_] dX8_errorCount_10 clX8_83 rfl h0 (sp_fail d0 0 (by decide) (-2) (by decide) h0 h42) rfl rfl rfl ?_
  refine Rq_iret dX8_errorCount_13 rfl ?_
  exact ⟨rfl, y.2, y.1⟩
theorem cx_ec (d0 : Nat) {v : Int32} {j : Nat} (x : CI h n as cs w k sv er tn tx) (hj : j < 4) (hv : v = -2 - nI j) : Mq mX8_errorCount (d0 + 2) [.ref 0, .int v] h (qK h n as cs w k sv er tn tx (.int (er j))) := by
  have x0 := x
  obtain ⟨gf, mf, h0, s, -, -, -, -, -, -, -, -, -, -, h42⟩ := x
  have e1 : -6 < v ∧ v ≤ -2 ∧ -2 - v = nI j := by
    have hj' : j = 0 ∨ j = 1 ∨ j = 2 ∨ j = 3 := by omega
    rcases hj' with e | e | e | e <;> subst e <;> subst hv <;> decide
  refine Mq_of [_, _] (by decide +kernel) rfl rfl ?_
  refine Rq_iload_n dX8_errorCount_0 rfl ?_
  refine Rq_callS [_] dX8_errorCount_1 clX8_215 (sp_isErr_t (d0 + 1) h e1.1 e1.2.1) rfl rfl rfl ?_
  refine Rq_if_ne_t 14 dX8_errorCount_4 (by decide) (by decide) ?_
  refine Rq_aload_n dX8_errorCount_14 rfl ?_
  refine Rq_get dX8_errorCount_15 flX8_65 h0 rfl ?_
  refine Rq_bipush (-2) dX8_errorCount_18 (by decide) ?_
  refine Rq_iload_n dX8_errorCount_20 rfl ?_
  refine Rq_isub dX8_errorCount_21 ?_
  rw [e1.2.2]
  refine Rq_iald j dX8_errorCount_22 h42 hj (by decide) rfl ?_
  refine Rq_iret dX8_errorCount_23 rfl ?_
  exact ⟨rfl, FC.rf h, x0⟩
theorem cx_undo_no (d0 : Nat) (x : CI h n as cs w 0 sv er tn tx) : Mq mX8_undo (d0 + 2) [.ref 0] h (qErr h n as cs w 0 sv (upd er 3 (er 3 + 1)) tn tx (-5)) := by
  have y := x.fail (upd er 3 (er 3 + 1))
  obtain ⟨gf, mf, h0, s, -, ⟨q, hi⟩, -, -, -, -, -, -, -, -, h42⟩ := x
  refine Mq_of [_] (by decide +kernel) rfl rfl ?_
  refine Rq_aload_n dX8_undo_0 rfl ?_
  refine Rq_get dX8_undo_1 flX8_19 h0 rfl ?_
  refine Rq_get dX8_undo_4 flX8_209 hi.1 rfl ?_
  refine Rq_if_ne_f 17 dX8_undo_7 (by decide) rfl ?_
  refine Rq_aload_n dX8_undo_10 rfl ?_
  refine Rq_bipush (-5) dX8_undo_11 (by decide) ?_
  refine Rq_callV [_] dX8_undo_13 clX8_83 rfl h0 (sp_fail d0 3 (by decide) (-5) (by decide) h0 h42) rfl rfl rfl ?_
  refine Rq_iret dX8_undo_16 rfl ?_
  exact ⟨rfl, y.2, y.1⟩
theorem cx_undo (d0 : Nat) {m : Nat} (x : CI h n as cs w (k + 1) sv er tn tx) (hm : m ≤ 16) (hs : (sv k).1 = nI m) : Mq mX8_undo (d0 + 3) [.ref 0] h (qK h m (sv k).2.1 (sv k).2.2.1 (sv k).2.2.2 k sv er tn tx (.int (nI k))) := by
  have x0 := x
  obtain ⟨gf, mf, h0, s, hn16, ⟨q, hi⟩, hk, hsv, ti, rd, cg, cm, wi, ⟨⟨us, g, fs, es, eo, ech, e38, e39, e40, e41⟩, -⟩, h42⟩ := x
  refine Mq_of [_] (by decide +kernel) rfl rfl ?_
  refine Rq_aload_n dX8_undo_0 rfl ?_
  refine Rq_get dX8_undo_1 flX8_19 h0 rfl ?_
  refine Rq_get dX8_undo_4 flX8_209 hi.1 rfl ?_
  refine Rq_if_ne_t 17 dX8_undo_7 (by decide) (nI_ne0 (by omega) (by omega)) ?_
  refine Rq_aload_n dX8_undo_17 rfl ?_
  refine Rq_get dX8_undo_18 flX8_19 h0 rfl ?_
  refine Rq_aload_n dX8_undo_21 rfl ?_
  refine Rq_get dX8_undo_22 flX8_12 h0 rfl ?_
  refine Rq_callVq [_] dX8_undo_25 clX8_212 rfl hi.1 (sp_restore d0 hi (by omega) s) rfl rfl rfl (fun rv h3 hq => ?_)
  obtain ⟨rfl, F, hi', s3⟩ := hq
  have k0 := F.at (by decide) h0
  have k38 := F.at (by decide) e38
  refine Rq_aload_n dX8_undo_28 rfl ?_
  refine Rq_callVv [] dX8_undo_29 clX8_106 rfl k0 (sp_changed (d0 + 1) k0 k38) rfl rfl rfl ?_
  have F3 : Fr [0, 38] h3 ((h3.set 0 (obX 0 0)).set 38 (obE us (-1) fs)) := Fr.trans (Fr.set (by decide)) (Fr.set (by decide))
  have i0 := hNs (e' := obE us (-1) fs) (by decide : (38 : Nat) ≠ 0) (hS (obX 0 0) k0)
  have i4 := F3.at (by decide) hi'.1
  refine Rq_aload_n dX8_undo_32 rfl ?_
  refine Rq_get dX8_undo_33 flX8_19 i0 rfl ?_
  refine Rq_get dX8_undo_36 flX8_209 i4 rfl ?_
  refine Rq_iret dX8_undo_39 rfl ?_
  have FF : Fr chC h ((h3.set 0 (obX 0 0)).set 38 (obE us (-1) fs)) := (F.mono (by decide)).trans (F3.mono (by decide))
  have s4 := s3.ag (F3.ag (by decide))
  have e : sv k = (nI m, (sv k).2.1, (sv k).2.2.1, (sv k).2.2.2) := by rw [← hs]
  rw [e] at s4
  have y := x0.changed (n' := m) (as' := (sv k).2.1) (cs' := (sv k).2.2.1) (w' := (sv k).2.2.2) FF i0 s4 hm (hi'.ag (F3.ag (by decide))) (by omega) hsv (hS _ (hNs (by decide) k38))
  exact ⟨rfl, y.2, y.1⟩
end API
