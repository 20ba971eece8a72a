/-! CnfCompiler's methods -/
def isLitP (x : Int32) : Prop := ¬ x = 0 ∧ -10 ≤ x ∧ x ≤ 10
def isLzP (x : Int32) : Prop := -10 ≤ x ∧ x ≤ 10
def sameP (x y : Int32) : Prop := ¬ x = 0 ∧ (x = y ∨ x = -y)
theorem sp_isLit (d : Nat) (h : Hp) {x : Int32} (z : isLitP x) : Mx mX8_isLiteral (d + 1) [.int x] h (some (.int 1)) h := sp_isLit_t d h z.1 z.2.1 z.2.2
theorem sp_isLitN (d : Nat) (h : Hp) {x : Int32} (z : ¬ isLitP x) : Mx mX8_isLiteral (d + 1) [.int x] h (some (.int 0)) h := sp_isLit_f d h z
theorem sp_same (d : Nat) (h : Hp) {x y : Int32} (z : sameP x y) : Mx mX8_sameVariable d [.int x, .int y] h (some (.int 1)) h := sp_same_t d h z.1 z.2
theorem sp_sameN (d : Nat) (h : Hp) {x y : Int32} (z : ¬ sameP x y) : Mx mX8_sameVariable d [.int x, .int y] h (some (.int 0)) h := sp_same_f d h (by
  by_cases c : x = 0
  · exact Or.inl c
  · exact Or.inr ⟨fun e => z ⟨c, Or.inl e⟩, fun e => z ⟨c, Or.inr e⟩⟩)
abbrev chC : List Nat := [0, 1, 2, 3, 4, 5, 6, 7, 8, 9, 10, 11, 12, 13, 14, 15, 16, 17, 18, 19, 20, 38]
section API
variable {h : Hp} {n : Nat} {as : Int32} {cs w : Nat → Int32} {k : Nat} {sv : Nat → SC} {er : Nat → Int32} {tn : Nat} {tx : Nat → Int32}
theorem CI.fail (x : CI h n as cs w k sv er tn tx) (er' : Nat → Int32) : CI (h.set 42 (aI 4 er')) n as cs w k sv er' tn tx ∧ FC h (h.set 42 (aI 4 er')) := by
  obtain ⟨gf, mf, h0, s, hn, ⟨q, hi⟩, hk, hsv, ti, rd, cg, cm, wi, ce, h42⟩ := x
  have F : Fr [42] h (h.set 42 (aI 4 er')) := Fr.set (by decide)
  exact ⟨⟨gf, mf, F.at (by decide) h0, s.ag (F.ag (by decide)), hn, ⟨q, hi.ag (F.ag (by decide))⟩, hk, hsv, ti.ag (F.ag (by decide)), rd.ag (F.ag (by decide)), cg.fr F (by decide), cm.ag (F.ag (by decide)), wi.ag (F.ag (by decide)), ce.ag (F.ag (by decide)), hS _ h42⟩, F.c (by decide)⟩
theorem CI.changed (x : CI h n as cs w k sv er tn tx) {h' : Hp} {n' k' : Nat} {as' us fs : Int32} {cs' w' : Nat → Int32} {sv' : Nat → SC} {q : Nat → Nat} (F : Fr chC h h') (a0 : h'[0]? = some (obX 0 0)) (s : SV h' 1 (nI n', as', cs', w')) (hn : n' ≤ 16) (hi : HI h' q k' sv') (hk : k' ≤ 5) (hsv : ∀ i, i < 5 → ∃ m, m ≤ 16 ∧ (sv' i).1 = nI m) (a38 : h'[38]? = some (obE us (-1) fs)) : CI h' n' as' cs' w' k' sv' er tn tx ∧ FC h h' := by
  obtain ⟨gf, mf, h0, -, -, -, -, -, ti, rd, cg, ⟨f, m, -⟩, wi, ⟨⟨us0, g0, fs0, s0, o0, ch0, e1, e2, e3, e4⟩, -⟩, h42⟩ := x
  exact ⟨⟨0, 0, a0, s, hn, ⟨q, hi⟩, hk, hsv, ti.ag (F.ag (by decide)), rd.ag (F.ag (by decide)), Or.inl ⟨rfl, cg.x.fr F (by decide)⟩, ⟨f, m.ag (F.ag (by decide)), Or.inl rfl⟩, wi.ag (F.ag (by decide)), ⟨⟨us, -1, fs, s0, o0, ch0, a38, F.at (by decide) e2, F.at (by decide) e3, F.at (by decide) e4⟩, us, -1, fs, a38, Or.inl rfl⟩, F.at (by decide) h42⟩, F.c (by decide)⟩
theorem svSave_ok {S : SC} {m : Nat} (hm : m ≤ 16) (hS : S.1 = nI m) (hsv : ∀ i, i < 5 → ∃ m, m ≤ 16 ∧ (sv i).1 = nI m) : ∀ i, i < 5 → ∃ m, m ≤ 16 ∧ (svSave k sv S i).1 = nI m := by
  intro i hi
  unfold svSave
  split
  · simp only [va_up]
    split
    · exact ⟨m, hm, hS⟩
    · exact hsv i hi
  · simp only [va_up]
    split
    · exact ⟨m, hm, hS⟩
    · simp only [rot5]
      split
      · exact hsv _ (by omega)
      · exact hsv _ (by omega)
/-- an answer r, new counters er', all else as it was -/
def qErr (h : Hp) (n : Nat) (as : Int32) (cs w : Nat → Int32) (k : Nat) (sv : Nat → SC) (er : Nat → Int32) (tn : Nat) (tx : Nat → Int32) (v : Int32) (r : Option Value) (h' : Hp) : Prop := r = some (.int v) ∧ FC h h' ∧ CI h' n as cs w k sv er tn tx
def aOK (a b c d : Int32) : Prop := isLitP a ∧ isLzP b ∧ isLzP c ∧ isLzP d
def aCf (a b c d : Int32) : Prop := sameP a b ∨ sameP a c ∨ sameP a d ∨ sameP b c ∨ sameP b d ∨ sameP c d
theorem cx_add_oor (d0 : Nat) {a b c d : Int32} (x : CI h n as cs w k sv er tn tx) (hc : ¬ aOK a b c d) : Mq mX8_addClause (d0 + 2) [.ref 0, .int a, .int b, .int c, .int d] h (qErr h n as cs w k sv (upd er 0 (er 0 + 1)) tn tx (-2)) := by
  have y := x.fail (upd er 0 (er 0 + 1))
  obtain ⟨gf, mf, h0, -, -, -, -, -, -, -, -, -, -, -, h42⟩ := x
  have K : Rq mX8_addClause (d0 + 2) 29 [.ref 0, .int a, .int b, .int c, .int d] [] h (qErr h n as cs w k sv (upd er 0 (er 0 + 1)) tn tx (-2)) := by
    refine Rq_aload_n dX8_addClause_29 rfl ?_
    refine Rq_bipush (-2) dX8_addClause_30 (by decide) ?_
    refine Rq_callV [_] dX8_addClause_32 clX8_83 rfl h0 (sp_fail d0 0 (by decide) (-2) (by decide) h0 h42) rfl rfl rfl ?_
    refine Rq_iret dX8_addClause_35 rfl ?_
    exact ⟨rfl, y.2, y.1⟩
  refine Mq_of [_, _, _, _, _] (by decide +kernel) rfl rfl ?_
  by_cases c1 : isLitP a
  · by_cases c2 : isLzP b
    · by_cases c3 : isLzP c
      · have c4 : ¬ isLzP d := fun z => hc ⟨c1, c2, c3, z⟩
        refine Rq_iload_n dX8_addClause_0 rfl ?_
        refine Rq_callS [_] dX8_addClause_1 clX8_76 (sp_isLit d0 h c1) rfl rfl rfl ?_
        refine Rq_if_eq_f 29 dX8_addClause_4 (by decide) (by decide) ?_
        refine Rq_iload_n dX8_addClause_7 rfl ?_
        refine Rq_callS [_] dX8_addClause_8 clX8_80 (sp_isLz_t (d0 + 1) h c2.1 c2.2) rfl rfl rfl ?_
        refine Rq_if_eq_f 29 dX8_addClause_11 (by decide) (by decide) ?_
        refine Rq_iload_n dX8_addClause_14 rfl ?_
        refine Rq_callS [_] dX8_addClause_15 clX8_80 (sp_isLz_t (d0 + 1) h c3.1 c3.2) rfl rfl rfl ?_
        refine Rq_if_eq_f 29 dX8_addClause_18 (by decide) (by decide) ?_
        refine Rq_iload dX8_addClause_21 rfl ?_
        refine Rq_callS [_] dX8_addClause_23 clX8_80 (sp_isLz_f (d0 + 1) h c4) rfl rfl rfl ?_
        refine Rq_if_ne_f 36 dX8_addClause_26 (by decide) rfl ?_
        exact K
      · refine Rq_iload_n dX8_addClause_0 rfl ?_
        refine Rq_callS [_] dX8_addClause_1 clX8_76 (sp_isLit d0 h c1) rfl rfl rfl ?_
        refine Rq_if_eq_f 29 dX8_addClause_4 (by decide) (by decide) ?_
        refine Rq_iload_n dX8_addClause_7 rfl ?_
        refine Rq_callS [_] dX8_addClause_8 clX8_80 (sp_isLz_t (d0 + 1) h c2.1 c2.2) rfl rfl rfl ?_
        refine Rq_if_eq_f 29 dX8_addClause_11 (by decide) (by decide) ?_
        refine Rq_iload_n dX8_addClause_14 rfl ?_
        refine Rq_callS [_] dX8_addClause_15 clX8_80 (sp_isLz_f (d0 + 1) h c3) rfl rfl rfl ?_
        refine Rq_if_eq_t 29 dX8_addClause_18 (by decide) rfl ?_
        exact K
    · refine Rq_iload_n dX8_addClause_0 rfl ?_
      refine Rq_callS [_] dX8_addClause_1 clX8_76 (sp_isLit d0 h c1) rfl rfl rfl ?_
      refine Rq_if_eq_f 29 dX8_addClause_4 (by decide) (by decide) ?_
      refine Rq_iload_n dX8_addClause_7 rfl ?_
      refine Rq_callS [_] dX8_addClause_8 clX8_80 (sp_isLz_f (d0 + 1) h c2) rfl rfl rfl ?_
      refine Rq_if_eq_t 29 dX8_addClause_11 (by decide) rfl ?_
      exact K
  · refine Rq_iload_n dX8_addClause_0 rfl ?_
    refine Rq_callS [_] dX8_addClause_1 clX8_76 (sp_isLitN d0 h c1) rfl rfl rfl ?_
    refine Rq_if_eq_t 29 dX8_addClause_4 (by decide) rfl ?_
    exact K
theorem cx_add_36 (d0 : Nat) {a b c d : Int32} {Q : Option Value → Hp → Prop} (hc : aOK a b c d) (K : Rq mX8_addClause (d0 + 2) 36 [.ref 0, .int a, .int b, .int c, .int d] [] h Q) : Mq mX8_addClause (d0 + 2) [.ref 0, .int a, .int b, .int c, .int d] h Q := by
  obtain ⟨c1, c2, c3, c4⟩ := hc
  refine Mq_of [_, _, _, _, _] (by decide +kernel) rfl rfl ?_
  refine Rq_iload_n dX8_addClause_0 rfl ?_
  refine Rq_callS [_] dX8_addClause_1 clX8_76 (sp_isLit d0 h c1) rfl rfl rfl ?_
  refine Rq_if_eq_f 29 dX8_addClause_4 (by decide) (by decide) ?_
  refine Rq_iload_n dX8_addClause_7 rfl ?_
  refine Rq_callS [_] dX8_addClause_8 clX8_80 (sp_isLz_t (d0 + 1) h c2.1 c2.2) rfl rfl rfl ?_
  refine Rq_if_eq_f 29 dX8_addClause_11 (by decide) (by decide) ?_
  refine Rq_iload_n dX8_addClause_14 rfl ?_
  refine Rq_callS [_] dX8_addClause_15 clX8_80 (sp_isLz_t (d0 + 1) h c3.1 c3.2) rfl rfl rfl ?_
  refine Rq_if_eq_f 29 dX8_addClause_18 (by decide) (by decide) ?_
  refine Rq_iload dX8_addClause_21 rfl ?_
  refine Rq_callS [_] dX8_addClause_23 clX8_80 (sp_isLz_t (d0 + 1) h c4.1 c4.2) rfl rfl rfl ?_
  refine Rq_if_ne_t 36 dX8_addClause_26 (by decide) (by decide) ?_
  exact K
theorem cx_add_cf (d0 : Nat) {a b c d : Int32} (x : CI h n as cs w k sv er tn tx) (hc : aOK a b c d) (hf : aCf a b c d) : Mq mX8_addClause (d0 + 2) [.ref 0, .int a, .int b, .int c, .int d] h (qErr h n as cs w k sv (upd er 1 (er 1 + 1)) tn tx (-3)) := by
  have y := x.fail (upd er 1 (er 1 + 1))
  obtain ⟨gf, mf, h0, -, -, -, -, -, -, -, -, -, -, -, h42⟩ := x
  refine cx_add_36 d0 hc ?_
  have K : Rq mX8_addClause (d0 + 2) 87 [.ref 0, .int a, .int b, .int c, .int d] [] h (qErr h n as cs w k sv (upd er 1 (er 1 + 1)) tn tx (-3)) := by
    refine Rq_aload_n dX8_addClause_87 rfl ?_
    refine Rq_bipush (-3) dX8_addClause_88 (by decide) ?_
    refine Rq_callV [_] dX8_addClause_90 clX8_83 rfl h0 (sp_fail d0 1 (by decide) (-3) (by decide) h0 h42) rfl rfl rfl ?_
    refine Rq_iret dX8_addClause_93 rfl ?_
    exact ⟨rfl, y.2, y.1⟩
  by_cases c1 : sameP a b
  · refine Rq_iload_n dX8_addClause_36 rfl ?_
    refine Rq_iload_n dX8_addClause_37 rfl ?_
    refine Rq_callS [_, _] dX8_addClause_38 clX8_87 (sp_same (d0 + 1) h c1) rfl rfl rfl ?_
    refine Rq_if_ne_t 87 dX8_addClause_41 (by decide) (by decide) ?_
    exact K
  · by_cases c2 : sameP a c
    · refine Rq_iload_n dX8_addClause_36 rfl ?_
      refine Rq_iload_n dX8_addClause_37 rfl ?_
      refine Rq_callS [_, _] dX8_addClause_38 clX8_87 (sp_sameN (d0 + 1) h c1) rfl rfl rfl ?_
      refine Rq_if_ne_f 87 dX8_addClause_41 (by decide) rfl ?_
      refine Rq_iload_n dX8_addClause_44 rfl ?_
      refine Rq_iload_n dX8_addClause_45 rfl ?_
      refine Rq_callS [_, _] dX8_addClause_46 clX8_87 (sp_same (d0 + 1) h c2) rfl rfl rfl ?_
      refine Rq_if_ne_t 87 dX8_addClause_49 (by decide) (by decide) ?_
      exact K
    · by_cases c3 : sameP a d
      · refine Rq_iload_n dX8_addClause_36 rfl ?_
        refine Rq_iload_n dX8_addClause_37 rfl ?_
        refine Rq_callS [_, _] dX8_addClause_38 clX8_87 (sp_sameN (d0 + 1) h c1) rfl rfl rfl ?_
        refine Rq_if_ne_f 87 dX8_addClause_41 (by decide) rfl ?_
        refine Rq_iload_n dX8_addClause_44 rfl ?_
        refine Rq_iload_n dX8_addClause_45 rfl ?_
        refine Rq_callS [_, _] dX8_addClause_46 clX8_87 (sp_sameN (d0 + 1) h c2) rfl rfl rfl ?_
        refine Rq_if_ne_f 87 dX8_addClause_49 (by decide) rfl ?_
        refine Rq_iload_n dX8_addClause_52 rfl ?_
        refine Rq_iload dX8_addClause_53 rfl ?_
        refine Rq_callS [_, _] dX8_addClause_55 clX8_87 (sp_same (d0 + 1) h c3) rfl rfl rfl ?_
        refine Rq_if_ne_t 87 dX8_addClause_58 (by decide) (by decide) ?_
        exact K
      · by_cases c4 : sameP b c
        · refine Rq_iload_n dX8_addClause_36 rfl ?_
          refine Rq_iload_n dX8_addClause_37 rfl ?_
          refine Rq_callS [_, _] dX8_addClause_38 clX8_87 (sp_sameN (d0 + 1) h c1) rfl rfl rfl ?_
          refine Rq_if_ne_f 87 dX8_addClause_41 (by decide) rfl ?_
          refine Rq_iload_n dX8_addClause_44 rfl ?_
          refine Rq_iload_n dX8_addClause_45 rfl ?_
          refine Rq_callS [_, _] dX8_addClause_46 clX8_87 (sp_sameN (d0 + 1) h c2) rfl rfl rfl ?_
          refine Rq_if_ne_f 87 dX8_addClause_49 (by decide) rfl ?_
          refine Rq_iload_n dX8_addClause_52 rfl ?_
          refine Rq_iload dX8_addClause_53 rfl ?_
          refine Rq_callS [_, _] dX8_addClause_55 clX8_87 (sp_sameN (d0 + 1) h c3) rfl rfl rfl ?_
          refine Rq_if_ne_f 87 dX8_addClause_58 (by decide) rfl ?_
          refine Rq_iload_n dX8_addClause_61 rfl ?_
          refine Rq_iload_n dX8_addClause_62 rfl ?_
          refine Rq_callS [_, _] dX8_addClause_63 clX8_87 (sp_same (d0 + 1) h c4) rfl rfl rfl ?_
          refine Rq_if_ne_t 87 dX8_addClause_66 (by decide) (by decide) ?_
          exact K
        · by_cases c5 : sameP b d
          · refine Rq_iload_n dX8_addClause_36 rfl ?_
            refine Rq_iload_n dX8_addClause_37 rfl ?_
            refine Rq_callS [_, _] dX8_addClause_38 clX8_87 (sp_sameN (d0 + 1) h c1) rfl rfl rfl ?_
            refine Rq_if_ne_f 87 dX8_addClause_41 (by decide) rfl ?_
            refine Rq_iload_n dX8_addClause_44 rfl ?_
            refine Rq_iload_n dX8_addClause_45 rfl ?_
            refine Rq_callS [_, _] dX8_addClause_46 clX8_87 (sp_sameN (d0 + 1) h c2) rfl rfl rfl ?_
            refine Rq_if_ne_f 87 dX8_addClause_49 (by decide) rfl ?_
            refine Rq_iload_n dX8_addClause_52 rfl ?_
            refine Rq_iload dX8_addClause_53 rfl ?_
            refine Rq_callS [_, _] dX8_addClause_55 clX8_87 (sp_sameN (d0 + 1) h c3) rfl rfl rfl ?_
            refine Rq_if_ne_f 87 dX8_addClause_58 (by decide) rfl ?_
            refine Rq_iload_n dX8_addClause_61 rfl ?_
            refine Rq_iload_n dX8_addClause_62 rfl ?_
            refine Rq_callS [_, _] dX8_addClause_63 clX8_87 (sp_sameN (d0 + 1) h c4) rfl rfl rfl ?_
            refine Rq_if_ne_f 87 dX8_addClause_66 (by decide) rfl ?_
            refine Rq_iload_n dX8_addClause_69 rfl ?_
            refine Rq_iload dX8_addClause_70 rfl ?_
            refine Rq_callS [_, _] dX8_addClause_72 clX8_87 (sp_same (d0 + 1) h c5) rfl rfl rfl ?_
            refine Rq_if_ne_t 87 dX8_addClause_75 (by decide) (by decide) ?_
            exact K
          · have c6 : sameP c d := by
              rcases hf with z | z | z | z | z | z
              · exact absurd z c1
              · exact absurd z c2
              · exact absurd z c3
              · exact absurd z c4
              · exact absurd z c5
              · exact z
            refine Rq_iload_n dX8_addClause_36 rfl ?_
            refine Rq_iload_n dX8_addClause_37 rfl ?_
            refine Rq_callS [_, _] dX8_addClause_38 clX8_87 (sp_sameN (d0 + 1) h c1) rfl rfl rfl ?_
            refine Rq_if_ne_f 87 dX8_addClause_41 (by decide) rfl ?_
            refine Rq_iload_n dX8_addClause_44 rfl ?_
            refine Rq_iload_n dX8_addClause_45 rfl ?_
            refine Rq_callS [_, _] dX8_addClause_46 clX8_87 (sp_sameN (d0 + 1) h c2) rfl rfl rfl ?_
            refine Rq_if_ne_f 87 dX8_addClause_49 (by decide) rfl ?_
            refine Rq_iload_n dX8_addClause_52 rfl ?_
            refine Rq_iload dX8_addClause_53 rfl ?_
            refine Rq_callS [_, _] dX8_addClause_55 clX8_87 (sp_sameN (d0 + 1) h c3) rfl rfl rfl ?_
            refine Rq_if_ne_f 87 dX8_addClause_58 (by decide) rfl ?_
            refine Rq_iload_n dX8_addClause_61 rfl ?_
            refine Rq_iload_n dX8_addClause_62 rfl ?_
            refine Rq_callS [_, _] dX8_addClause_63 clX8_87 (sp_sameN (d0 + 1) h c4) rfl rfl rfl ?_
            refine Rq_if_ne_f 87 dX8_addClause_66 (by decide) rfl ?_
            refine Rq_iload_n dX8_addClause_69 rfl ?_
            refine Rq_iload dX8_addClause_70 rfl ?_
            refine Rq_callS [_, _] dX8_addClause_72 clX8_87 (sp_sameN (d0 + 1) h c5) rfl rfl rfl ?_
            refine Rq_if_ne_f 87 dX8_addClause_75 (by decide) rfl ?_
            refine Rq_iload_n dX8_addClause_78 rfl ?_
            refine Rq_iload dX8_addClause_79 rfl ?_
            refine Rq_callS [_, _] dX8_addClause_81 clX8_87 (sp_same (d0 + 1) h c6) rfl rfl rfl ?_
            refine Rq_if_eq_f 94 dX8_addClause_84 (by decide) (by decide) ?_
            exact K
theorem cx_add_94 (d0 : Nat) {a b c d : Int32} {Q : Option Value → Hp → Prop} (hc : aOK a b c d) (hf : ¬ aCf a b c d) (K : Rq mX8_addClause (d0 + 2) 94 [.ref 0, .int a, .int b, .int c, .int d] [] h Q) : Mq mX8_addClause (d0 + 2) [.ref 0, .int a, .int b, .int c, .int d] h Q := by
  refine cx_add_36 d0 hc ?_
  refine Rq_iload_n dX8_addClause_36 rfl ?_
  refine Rq_iload_n dX8_addClause_37 rfl ?_
  refine Rq_callS [_, _] dX8_addClause_38 clX8_87 (sp_sameN (d0 + 1) h (fun z => hf (Or.inl z))) rfl rfl rfl ?_
  refine Rq_if_ne_f 87 dX8_addClause_41 (by decide) rfl ?_
  refine Rq_iload_n dX8_addClause_44 rfl ?_
  refine Rq_iload_n dX8_addClause_45 rfl ?_
  refine Rq_callS [_, _] dX8_addClause_46 clX8_87 (sp_sameN (d0 + 1) h (fun z => hf (Or.inr (Or.inl z)))) rfl rfl rfl ?_
  refine Rq_if_ne_f 87 dX8_addClause_49 (by decide) rfl ?_
  refine Rq_iload_n dX8_addClause_52 rfl ?_
  refine Rq_iload dX8_addClause_53 rfl ?_
  refine Rq_callS [_, _] dX8_addClause_55 clX8_87 (sp_sameN (d0 + 1) h (fun z => hf (Or.inr (Or.inr (Or.inl z))))) rfl rfl rfl ?_
  refine Rq_if_ne_f 87 dX8_addClause_58 (by decide) rfl ?_
  refine Rq_iload_n dX8_addClause_61 rfl ?_
  refine Rq_iload_n dX8_addClause_62 rfl ?_
  refine Rq_callS [_, _] dX8_addClause_63 clX8_87 (sp_sameN (d0 + 1) h (fun z => hf (Or.inr (Or.inr (Or.inr (Or.inl z)))))) rfl rfl rfl ?_
  refine Rq_if_ne_f 87 dX8_addClause_66 (by decide) rfl ?_
  refine Rq_iload_n dX8_addClause_69 rfl ?_
  refine Rq_iload dX8_addClause_70 rfl ?_
  refine Rq_callS [_, _] dX8_addClause_72 clX8_87 (sp_sameN (d0 + 1) h (fun z => hf (Or.inr (Or.inr (Or.inr (Or.inr (Or.inl z))))))) rfl rfl rfl ?_
  refine Rq_if_ne_f 87 dX8_addClause_75 (by decide) rfl ?_
  refine Rq_iload_n dX8_addClause_78 rfl ?_
  refine Rq_iload dX8_addClause_79 rfl ?_
  refine Rq_callS [_, _] dX8_addClause_81 clX8_87 (sp_sameN (d0 + 1) h (fun z => hf (Or.inr (Or.inr (Or.inr (Or.inr (Or.inr z))))))) rfl rfl rfl ?_
  refine Rq_if_eq_t 94 dX8_addClause_84 (by decide) rfl ?_
  exact K
theorem cx_add_full (d0 : Nat) {a b c d : Int32} (x : CI h n as cs w k sv er tn tx) (hc : aOK a b c d) (hf : ¬ aCf a b c d) (hn : n = 16) : Mq mX8_addClause (d0 + 2) [.ref 0, .int a, .int b, .int c, .int d] h (qErr h n as cs w k sv (upd er 2 (er 2 + 1)) tn tx (-4)) := by
  have y := x.fail (upd er 2 (er 2 + 1))
  obtain ⟨gf, mf, h0, s, -, -, -, -, -, -, -, -, -, -, h42⟩ := x
  refine cx_add_94 d0 hc hf ?_
  refine Rq_aload_n dX8_addClause_94 rfl ?_
  refine Rq_get dX8_addClause_95 flX8_12 h0 rfl ?_
  refine Rq_get dX8_addClause_98 flX8_91 s.1 rfl ?_
  refine Rq_bipush (16) dX8_addClause_101 (by decide) ?_
  refine Rq_icmp_lt_f 113 dX8_addClause_103 (by decide) (by subst hn; exact nI_nlt (b := 16) (a := 16) (Nat.le_refl _) (by decide)) ?_
  refine Rq_aload_n dX8_addClause_106 rfl ?_
  refine Rq_bipush (-4) dX8_addClause_107 (by decide) ?_
  refine Rq_callV [_] dX8_addClause_109 clX8_83 rfl h0 (sp_fail d0 2 (by decide) (-4) (by decide) h0 h42) rfl rfl rfl ?_
  refine Rq_iret dX8_addClause_112 rfl ?_
  exact ⟨rfl, y.2, y.1⟩
/-- the clause of four literals -/
def bits4 (a b c d : Int32) : Int32 := fBit a ||| fBit b ||| fBit c ||| fBit d
theorem cx_add (d0 : Nat) {a b c d : Int32} (x : CI h n as cs w k sv er tn tx) (hc : aOK a b c d) (hf : ¬ aCf a b c d) (hn : n < 16) : Mq mX8_addClause (d0 + 3) [.ref 0, .int a, .int b, .int c, .int d] h (fun r h' => r = some (.int (nI n)) ∧ FC h h' ∧ CI h' (n + 1) as (upd cs n (bits4 a b c d)) w (min k 4 + 1) (svSave k sv (nI n, as, cs, w)) er tn tx) := by
  have x0 := x
  obtain ⟨gf, mf, h0, s, hn16, ⟨q, hi⟩, hk, hsv, ti, rd, cg, cm, wi, ⟨⟨us, g, fs, es, eo, ech, e38, e39, e40, e41⟩, -⟩, h42⟩ := x
  refine cx_add_94 (d0 + 1) hc hf ?_
  refine Rq_aload_n dX8_addClause_94 rfl ?_
  refine Rq_get dX8_addClause_95 flX8_12 h0 rfl ?_
  refine Rq_get dX8_addClause_98 flX8_91 s.1 rfl ?_
  refine Rq_bipush (16) dX8_addClause_101 (by decide) ?_
  refine Rq_icmp_lt_t 113 dX8_addClause_103 (by decide) (nI_lt (b := 16) hn (by decide)) ?_
  refine Rq_aload_n dX8_addClause_113 rfl ?_
  refine Rq_get dX8_addClause_114 flX8_19 h0 rfl ?_
  refine Rq_aload_n dX8_addClause_117 rfl ?_
  refine Rq_get dX8_addClause_118 flX8_12 h0 rfl ?_
  refine Rq_callVq [_] dX8_addClause_121 clX8_95 rfl hi.1 (sp_save d0 hi hk s) rfl rfl rfl (fun rv h3 hq => ?_)
  obtain ⟨rfl, F, q', hi'⟩ := hq
  have k0 := F.at (by decide) h0
  have s3 : SV h3 1 (nI n, as, cs, w) := s.ag (F.ag (by decide))
  obtain ⟨t1, ⟨f, t2, t3⟩, gw, t4, t5⟩ := s3
  replace t1 : h3[1]? = some (obS 2 (nI n) as 3) := t1
  replace t2 : h3[2]? = some (aI 16 f) := t2
  refine Rq_aload_n dX8_addClause_124 rfl ?_
  refine Rq_get dX8_addClause_125 flX8_12 k0 rfl ?_
  refine Rq_iload_n dX8_addClause_128 rfl ?_
  refine Rq_callS [_] dX8_addClause_129 clX8_99 (sp_bitOf (d0 + 1) _ _) rfl rfl rfl ?_
  refine Rq_iload_n dX8_addClause_132 rfl ?_
  refine Rq_callS [_] dX8_addClause_133 clX8_99 (sp_bitOf (d0 + 1) _ _) rfl rfl rfl ?_
  refine Rq_ior dX8_addClause_136 ?_
  refine Rq_iload_n dX8_addClause_137 rfl ?_
  refine Rq_callS [_] dX8_addClause_138 clX8_99 (sp_bitOf (d0 + 1) _ _) rfl rfl rfl ?_
  refine Rq_ior dX8_addClause_141 ?_
  refine Rq_iload dX8_addClause_142 rfl ?_
  refine Rq_callS [_] dX8_addClause_144 clX8_99 (sp_bitOf (d0 + 1) _ _) rfl rfl rfl ?_
  refine Rq_ior dX8_addClause_147 ?_
  refine Rq_callVv [_] dX8_addClause_148 clX8_102 rfl t1 (sp_appendClause (d0 + 2) t1 t2 (by decide) hn) rfl rfl rfl ?_
  have j0 := hNs (e' := obS 2 (nI (n + 1)) as 3) (by decide : (1 : Nat) ≠ 0) (hNs (e' := aI 16 (upd f n (bits4 a b c d))) (by decide : (2 : Nat) ≠ 0) k0)
  have j38 := hNs (e' := obS 2 (nI (n + 1)) as 3) (by decide : (1 : Nat) ≠ 38) (hNs (e' := aI 16 (upd f n (bits4 a b c d))) (by decide : (2 : Nat) ≠ 38) (F.at (by decide) e38))
  have F2 : Fr [1, 2] h3 ((h3.set 2 (aI 16 (upd f n (bits4 a b c d)))).set 1 (obS 2 (nI (n + 1)) as 3)) := Fr.trans (Fr.set (by decide)) (Fr.set (by decide))
  have j1 := hS (obS 2 (nI (n + 1)) as 3) (hNs (e' := aI 16 (upd f n (bits4 a b c d))) (by decide : (2 : Nat) ≠ 1) t1)
  have j2 := hNs (e' := obS 2 (nI (n + 1)) as 3) (by decide : (1 : Nat) ≠ 2) (hS (aI 16 (upd f n (bits4 a b c d))) t2)
  have j3 := F2.at (by decide) t4
  show Rq _ _ _ _ _ ((h3.set 2 (aI 16 (upd f n (bits4 a b c d)))).set 1 (obS 2 (nI (n + 1)) as 3)) _
  generalize (h3.set 2 (aI 16 (upd f n (bits4 a b c d)))).set 1 (obS 2 (nI (n + 1)) as 3) = h4 at j0 j38 F2 j1 j2 j3 ⊢
  have F3 : Fr [0, 38] h4 ((h4.set 0 (obX 0 0)).set 38 (obE us (-1) fs)) := Fr.trans (Fr.set (by decide)) (Fr.set (by decide))
  refine Rq_aload_n dX8_addClause_151 rfl ?_
  refine Rq_callVv [] dX8_addClause_152 clX8_106 rfl j0 (sp_changed (d0 + 1) j0 j38) rfl rfl rfl ?_
  have i0 := hNs (e' := obE us (-1) fs) (by decide : (38 : Nat) ≠ 0) (hS (obX 0 0) j0)
  have i1 := F3.at (by decide) j1
  refine Rq_aload_n dX8_addClause_155 rfl ?_
  refine Rq_get dX8_addClause_156 flX8_12 i0 rfl ?_
  refine Rq_get dX8_addClause_159 flX8_91 i1 rfl ?_
  refine Rq_iconst (1) dX8_addClause_162 (by decide) ?_
  refine Rq_isub dX8_addClause_163 ?_
  rw [nI_pred]
  refine Rq_iret dX8_addClause_164 rfl ?_
  have FF : Fr chC h ((h4.set 0 (obX 0 0)).set 38 (obE us (-1) fs)) := (F.mono (by decide)).trans ((F2.mono (by decide)).trans (F3.mono (by decide)))
  have y := x0.changed (n' := n + 1) (as' := as) (cs' := upd cs n (bits4 a b c d)) (w' := w) FF i0 ⟨i1, ⟨_, F3.at (by decide) j2, fun j hj => ?_⟩, gw, F3.at (by decide) j3, t5⟩ (by omega) ((hi'.ag (F2.ag (by decide))).ag (F3.ag (by decide))) (by omega) (svSave_ok hn16 rfl hsv) (hS _ (hNs (by decide) j38))
  · exact ⟨rfl, y.2, y.1⟩
  · simp only [upd]
    split
    · rfl
    · exact t3 j hj
end API
