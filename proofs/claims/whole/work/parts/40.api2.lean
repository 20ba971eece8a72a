/-! CnfCompiler's methods: formula, text, undo, errorCount -/
theorem nI_lof {x : Int32} {n : Nat} (hn : n < 2 ^ 31) (h0 : 0 ≤ x) (h1 : x < nI n) : ∃ c, c < n ∧ x = nI c := by
  have a := Int32.le_iff_toInt_le.mp h0
  have b := Int32.lt_iff_toInt_lt.mp h1
  have e0 : (0 : Int32).toInt = 0 := rfl
  have e1 : (nI n).toInt = (n : Int) := Int32.toInt_ofNat_of_lt hn
  rw [e0] at a
  rw [e1] at b
  refine ⟨x.toInt.toNat, by omega, ?_⟩
  apply Int32.toInt_inj.mp
  rw [show (nI x.toInt.toNat).toInt = ((x.toInt.toNat : Nat) : Int) from Int32.toInt_ofNat_of_lt (by omega)]
  omega
theorem nI_lof0 {x : Int32} (h0 : 0 ≤ x) : ∃ c, c < 2 ^ 31 ∧ x = nI c := by
  have a := Int32.le_iff_toInt_le.mp h0
  have e0 : (0 : Int32).toInt = 0 := rfl
  rw [e0] at a
  have b := Int32.toInt_lt x
  refine ⟨x.toInt.toNat, by omega, ?_⟩
  apply Int32.toInt_inj.mp
  rw [show (nI x.toInt.toNat).toInt = ((x.toInt.toNat : Nat) : Int) from Int32.toInt_ofNat_of_lt (by omega)]
  omega
theorem lz_cases {x : Int32} (z : isLzP x) : ∃ i, i < 21 ∧ x = nI i - 10 := by
  have a := Int32.le_iff_toInt_le.mp z.1
  have b := Int32.le_iff_toInt_le.mp z.2
  have e0 : (-10 : Int32).toInt = -10 := rfl
  have e1 : (10 : Int32).toInt = 10 := rfl
  rw [e0] at a
  rw [e1] at b
  refine ⟨(x.toInt + 10).toNat, by omega, ?_⟩
  have e : x = Int32.ofInt x.toInt := (Int32.ofInt_toInt x).symm
  have : ∀ m : Nat, m < 21 → Int32.ofInt ((m : Int) - 10) = nI m - 10 := by decide +kernel
  rw [← this _ (by omega), show (((x.toInt + 10).toNat : Nat) : Int) - 10 = x.toInt by omega]
  exact e
def cdN (x : Int32) : Nat := (fCode x).toBitVec.toNat
theorem cd_ok {x : Int32} (z : isLitP x) : fCode x = nI (cdN x) ∧ 2 ≤ cdN x ∧ cdN x ≤ 21 := by
  obtain ⟨i, hi, rfl⟩ := lz_cases z.2
  have : ∀ i : Nat, i < 21 → ¬ (nI i - 10 = 0) → fCode (nI i - 10) = nI (cdN (nI i - 10)) ∧ 2 ≤ cdN (nI i - 10) ∧ cdN (nI i - 10) ≤ 21 := by decide +kernel
  exact this i hi z.1
section API
variable {h : Hp} {n : Nat} {as : Int32} {cs w : Nat → Int32} {k : Nat} {sv : Nat → SC} {er : Nat → Int32} {tn : Nat} {tx : Nat → Int32}
theorem CI.hist (x : CI h n as cs w k sv er tn tx) {h' : Hp} {q' : Nat → Nat} {S : SC} {m : Nat} (hm : m ≤ 16) (hS : S.1 = nI m) (F : Fr hCells h h') (hi' : HI h' q' (min k 4 + 1) (svSave k sv S)) : CI h' n as cs w (min k 4 + 1) (svSave k sv S) er tn tx ∧ FC h h' := by
  obtain ⟨gf, mf, h0, s, hn, ⟨q, hi⟩, hk, hsv, ti, rd, cg, cm, wi, ce, h42⟩ := x
  exact ⟨⟨gf, mf, F.at (by decide) h0, s.ag (F.ag (by decide)), hn, ⟨q', hi'⟩, by omega, svSave_ok hm hS hsv, ti.ag (F.ag (by decide)), rd.ag (F.ag (by decide)), cg.fr F (by decide), cm.ag (F.ag (by decide)), wi.ag (F.ag (by decide)), ce.ag (F.ag (by decide)), F.at (by decide) h42⟩, F.c (by decide)⟩
/-- an answer r, all else as it was -/
abbrev qK (h : Hp) (n : Nat) (as : Int32) (cs w : Nat → Int32) (k : Nat) (sv : Nat → SC) (er : Nat → Int32) (tn : Nat) (tx : Nat → Int32) (v : Value) (r : Option Value) (h' : Hp) : Prop := r = some v ∧ FC h h' ∧ CI h' n as cs w k sv er tn tx
theorem cx_clauses (d0 : Nat) (x : CI h n as cs w k sv er tn tx) : Mq mX8_clauses d0 [.ref 0] h (qK h n as cs w k sv er tn tx (.int (nI n))) := by
  have x0 := x
  obtain ⟨gf, mf, h0, s, -⟩ := x
  refine Mq_of [_] (by decide +kernel) rfl rfl ?_
  refine Rq_aload_n dX8_clauses_0 rfl ?_
  refine Rq_get dX8_clauses_1 flX8_12 h0 rfl ?_
  refine Rq_get dX8_clauses_4 flX8_91 s.1 rfl ?_
  refine Rq_iret dX8_clauses_7 rfl ?_
  exact ⟨rfl, FC.rf h, x0⟩
theorem cx_rem_oor (d0 : Nat) {i : Int32} (x : CI h n as cs w k sv er tn tx) (hc : ¬ (0 ≤ i ∧ i < nI n)) : Mq mX8_removeClause (d0 + 2) [.ref 0, .int i] h (qErr h n as cs w k sv (upd er 0 (er 0 + 1)) tn tx (-2)) := by
  have y := x.fail (upd er 0 (er 0 + 1))
  obtain ⟨gf, mf, h0, s, -, -, -, -, -, -, -, -, -, -, h42⟩ := x
  refine Mq_of [_, _] (by decide +kernel) rfl rfl ?_
  refine Rq_aload_n dX8_removeClause_0 rfl ?_
  refine Rq_get dX8_removeClause_1 flX8_12 h0 rfl ?_
  refine Rq_iload_n dX8_removeClause_4 rfl ?_
  refine Rq_callV [_] dX8_removeClause_5 clX8_109 rfl s.1 (sp_hasCl_f (d0 + 1) s.1 hc) rfl rfl rfl ?_
  refine Rq_if_ne_f 18 dX8_removeClause_8 (by decide) rfl ?_
  refine Rq_aload_n dX8_removeClause_11 rfl ?_
  refine Rq_bipush (-2) dX8_removeClause_12 (by decide) ?_
  refine Rq_callV [_] dX8_removeClause_14 clX8_83 rfl h0 (sp_fail d0 0 (by decide) (-2) (by decide) h0 h42) rfl rfl rfl ?_
  refine Rq_iret dX8_removeClause_17 rfl ?_
  exact ⟨rfl, y.2, y.1⟩
theorem cx_rem (d0 : Nat) {i : Nat} (x : CI h n as cs w k sv er tn tx) (hc : i < n) : Mq mX8_removeClause (d0 + 3) [.ref 0, .int (nI i)] h (qK h (n - 1) as (delf cs i (n - 1)) w (min k 4 + 1) (svSave k sv (nI n, as, cs, w)) er tn tx (.int (nI (n - 1)))) := by
  have x0 := x
  obtain ⟨gf, mf, h0, s, hn16, ⟨q, hi⟩, hk, hsv, ti, rd, cg, cm, wi, ⟨⟨us, g, fs, es, eo, ech, e38, e39, e40, e41⟩, -⟩, h42⟩ := x
  refine Mq_of [_, _] (by decide +kernel) rfl rfl ?_
  refine Rq_aload_n dX8_removeClause_0 rfl ?_
  refine Rq_get dX8_removeClause_1 flX8_12 h0 rfl ?_
  refine Rq_iload_n dX8_removeClause_4 rfl ?_
  refine Rq_callV [_] dX8_removeClause_5 clX8_109 rfl s.1 (sp_hasCl_t (d0 + 2) s.1 (nI_le (a := 0) (by omega) (by omega)) (nI_lt hc (by omega))) rfl rfl rfl ?_
  refine Rq_if_ne_t 18 dX8_removeClause_8 (by decide) (by decide) ?_
  refine Rq_aload_n dX8_removeClause_18 rfl ?_
  refine Rq_get dX8_removeClause_19 flX8_19 h0 rfl ?_
  refine Rq_aload_n dX8_removeClause_22 rfl ?_
  refine Rq_get dX8_removeClause_23 flX8_12 h0 rfl ?_
  refine Rq_callVq [_] dX8_removeClause_26 clX8_95 rfl hi.1 (sp_save d0 hi hk s) rfl rfl rfl (fun rv h3 hq => ?_)
  obtain ⟨rfl, F, q', hi'⟩ := hq
  have k0 := F.at (by decide) h0
  have s3 : SV h3 1 (nI n, as, cs, w) := s.ag (F.ag (by decide))
  obtain ⟨t1, ⟨f, t2, t3⟩, gw, t4, t5⟩ := s3
  replace t1 : h3[1]? = some (obS 2 (nI n) as 3) := t1
  replace t2 : h3[2]? = some (aI 16 f) := t2
  refine Rq_aload_n dX8_removeClause_29 rfl ?_
  refine Rq_get dX8_removeClause_30 flX8_12 k0 rfl ?_
  refine Rq_iload_n dX8_removeClause_33 rfl ?_
  refine Rq_callVv [_] dX8_removeClause_34 clX8_112 rfl t1 (sp_deleteClause (d0 + 1) t1 t2 (by decide) hn16 hc) rfl rfl rfl ?_
  have j0 := hNs (e' := obS 2 (nI (n - 1)) as 3) (by decide : (1 : Nat) ≠ 0) (hNs (e' := aI 16 (delf f i (n - 1))) (by decide : (2 : Nat) ≠ 0) k0)
  have j38 := hNs (e' := obS 2 (nI (n - 1)) as 3) (by decide : (1 : Nat) ≠ 38) (hNs (e' := aI 16 (delf f i (n - 1))) (by decide : (2 : Nat) ≠ 38) (F.at (by decide) e38))
  have F2 : Fr [1, 2] h3 ((h3.set 2 (aI 16 (delf f i (n - 1)))).set 1 (obS 2 (nI (n - 1)) as 3)) := Fr.trans (Fr.set (by decide)) (Fr.set (by decide))
  have j1 := hS (obS 2 (nI (n - 1)) as 3) (hNs (e' := aI 16 (delf f i (n - 1))) (by decide : (2 : Nat) ≠ 1) t1)
  have j2 := hNs (e' := obS 2 (nI (n - 1)) as 3) (by decide : (1 : Nat) ≠ 2) (hS (aI 16 (delf f i (n - 1))) t2)
  have j3 := F2.at (by decide) t4
  generalize (h3.set 2 (aI 16 (delf f i (n - 1)))).set 1 (obS 2 (nI (n - 1)) as 3) = h4 at j0 j38 F2 j1 j2 j3 ⊢
  have F3 : Fr [0, 38] h4 ((h4.set 0 (obX 0 0)).set 38 (obE us (-1) fs)) := Fr.trans (Fr.set (by decide)) (Fr.set (by decide))
  refine Rq_aload_n dX8_removeClause_37 rfl ?_
  refine Rq_callVv [] dX8_removeClause_38 clX8_106 rfl j0 (sp_changed (d0 + 1) j0 j38) rfl rfl rfl ?_
  have i0 := hNs (e' := obE us (-1) fs) (by decide : (38 : Nat) ≠ 0) (hS (obX 0 0) j0)
  have i1 := F3.at (by decide) j1
  refine Rq_aload_n dX8_removeClause_41 rfl ?_
  refine Rq_get dX8_removeClause_42 flX8_12 i0 rfl ?_
  refine Rq_get dX8_removeClause_45 flX8_91 i1 rfl ?_
  refine Rq_iret dX8_removeClause_48 rfl ?_
  have FF : Fr chC h ((h4.set 0 (obX 0 0)).set 38 (obE us (-1) fs)) := (F.mono (by decide)).trans ((F2.mono (by decide)).trans (F3.mono (by decide)))
  have y := x0.changed (n' := n - 1) (as' := as) (cs' := delf cs i (n - 1)) (w' := w) FF i0 ⟨i1, ⟨_, F3.at (by decide) j2, fun j hj => ?_⟩, gw, F3.at (by decide) j3, t5⟩ (by omega) ((hi'.ag (F2.ag (by decide))).ag (F3.ag (by decide))) (by omega) (svSave_ok hn16 rfl hsv) (hS _ (hNs (by decide) j38))
  · exact ⟨rfl, y.2, y.1⟩
  · simp only [delf]
    split
    · exact t3 _ (by omega)
    · exact t3 j hj
theorem cx_size_oor (d0 : Nat) {i : Int32} (x : CI h n as cs w k sv er tn tx) (hc : ¬ (0 ≤ i ∧ i < nI n)) : Mq mX8_clauseSize (d0 + 2) [.ref 0, .int i] h (qErr h n as cs w k sv (upd er 0 (er 0 + 1)) tn tx (-2)) := by
  have y := x.fail (upd er 0 (er 0 + 1))
  obtain ⟨gf, mf, h0, s, -, -, -, -, -, -, -, -, -, -, h42⟩ := x
  refine Mq_of [_, _] (by decide +kernel) rfl rfl ?_
  refine Rq_aload_n dX8_clauseSize_0 rfl ?_
  refine Rq_get dX8_clauseSize_1 flX8_12 h0 rfl ?_
  refine Rq_iload_n dX8_clauseSize_4 rfl ?_
  refine Rq_callV [_] dX8_clauseSize_5 clX8_109 rfl s.1 (sp_hasCl_f (d0 + 1) s.1 hc) rfl rfl rfl ?_
  refine Rq_if_ne_f 18 dX8_clauseSize_8 (by decide) rfl ?_
  refine Rq_aload_n dX8_clauseSize_11 rfl ?_
  refine Rq_bipush (-2) dX8_clauseSize_12 (by decide) ?_
  refine Rq_callV [_] dX8_clauseSize_14 clX8_83 rfl h0 (sp_fail d0 0 (by decide) (-2) (by decide) h0 h42) rfl rfl rfl ?_
  refine Rq_iret dX8_clauseSize_17 rfl ?_
  exact ⟨rfl, y.2, y.1⟩
theorem cx_size (d0 : Nat) {i : Nat} (x : CI h n as cs w k sv er tn tx) (hc : i < n) : Mq mX8_clauseSize (d0 + 2) [.ref 0, .int (nI i)] h (qK h n as cs w k sv er tn tx (.int (bcI (cs i)))) := by
  have x0 := x
  obtain ⟨gf, mf, h0, s, hn16, -⟩ := x
  obtain ⟨s1, ⟨f, s2, s3⟩, s4⟩ := s
  refine Mq_of [_, _] (by decide +kernel) rfl rfl ?_
  refine Rq_aload_n dX8_clauseSize_0 rfl ?_
  refine Rq_get dX8_clauseSize_1 flX8_12 h0 rfl ?_
  refine Rq_iload_n dX8_clauseSize_4 rfl ?_
  refine Rq_callV [_] dX8_clauseSize_5 clX8_109 rfl s1 (sp_hasCl_t (d0 + 1) s1 (nI_le (a := 0) (by omega) (by omega)) (nI_lt hc (by omega))) rfl rfl rfl ?_
  refine Rq_if_ne_t 18 dX8_clauseSize_8 (by decide) (by decide) ?_
  refine Rq_aload_n dX8_clauseSize_18 rfl ?_
  refine Rq_get dX8_clauseSize_19 flX8_12 h0 rfl ?_
  refine Rq_iload_n dX8_clauseSize_22 rfl ?_
  refine Rq_callV [_] dX8_clauseSize_23 clX8_115 rfl s1 (sp_clauseAt d0 s1 s2 hc hn16) rfl rfl rfl ?_
  rw [s3 i (by omega)]
  refine Rq_callS [_] dX8_clauseSize_26 clX8_118 (sp_bitCount (d0 + 1) h _) rfl rfl rfl ?_
  refine Rq_iret dX8_clauseSize_29 rfl ?_
  exact ⟨rfl, FC.rf h, x0⟩
theorem cx_asm_oor (d0 : Nat) {a : Int32} (x : CI h n as cs w k sv er tn tx) (hc : ¬ isLitP a) : Mq mX8_assume (d0 + 2) [.ref 0, .int a] h (qErr h n as cs w k sv (upd er 0 (er 0 + 1)) tn tx (-2)) := by
  have y := x.fail (upd er 0 (er 0 + 1))
  obtain ⟨gf, mf, h0, s, -, -, -, -, -, -, -, -, -, -, h42⟩ := x
  refine Mq_of [_, _] (by decide +kernel) rfl rfl ?_
  refine Rq_iload_n dX8_assume_0 rfl ?_
  refine Rq_callS [_] dX8_assume_1 clX8_76 (sp_isLitN d0 h hc) rfl rfl rfl ?_
  refine Rq_if_ne_f 14 dX8_assume_4 (by decide) rfl ?_
  refine Rq_aload_n dX8_assume_7 rfl ?_
  refine Rq_bipush (-2) dX8_assume_8 (by decide) ?_
  refine Rq_callV [_] dX8_assume_10 clX8_83 rfl h0 (sp_fail d0 0 (by decide) (-2) (by decide) h0 h42) rfl rfl rfl ?_
  refine Rq_iret dX8_assume_13 rfl ?_
  exact ⟨rfl, y.2, y.1⟩
theorem cx_asm_cf (d0 : Nat) {a : Int32} (x : CI h n as cs w k sv er tn tx) (hc : isLitP a) (hf : ¬ fVars as &&& fVars (fBit a) = 0) : Mq mX8_assume (d0 + 2) [.ref 0, .int a] h (qErr h n as cs w k sv (upd er 1 (er 1 + 1)) tn tx (-3)) := by
  have y := x.fail (upd er 1 (er 1 + 1))
  obtain ⟨gf, mf, h0, s, -, -, -, -, -, -, -, -, -, -, h42⟩ := x
  refine Mq_of [_, _] (by decide +kernel) rfl rfl ?_
  refine Rq_iload_n dX8_assume_0 rfl ?_
  refine Rq_callS [_] dX8_assume_1 clX8_76 (sp_isLit d0 h hc) rfl rfl rfl ?_
  refine Rq_if_ne_t 14 dX8_assume_4 (by decide) (by decide) ?_
  refine Rq_aload_n dX8_assume_14 rfl ?_
  refine Rq_get dX8_assume_15 flX8_12 h0 rfl ?_
  refine Rq_get dX8_assume_18 flX8_123 s.1 rfl ?_
  refine Rq_callS [_] dX8_assume_21 clX8_126 (sp_varsOf (d0 + 1) h as) rfl rfl rfl ?_
  refine Rq_iload_n dX8_assume_24 rfl ?_
  refine Rq_callS [_] dX8_assume_25 clX8_99 (sp_bitOf d0 h a) rfl rfl rfl ?_
  refine Rq_callS [_] dX8_assume_28 clX8_126 (sp_varsOf (d0 + 1) h (fBit a)) rfl rfl rfl ?_
  refine Rq_iand dX8_assume_31 ?_
  refine Rq_if_eq_f 42 dX8_assume_32 (by decide) hf ?_
  refine Rq_aload_n dX8_assume_35 rfl ?_
  refine Rq_bipush (-3) dX8_assume_36 (by decide) ?_
  refine Rq_callV [_] dX8_assume_38 clX8_83 rfl h0 (sp_fail d0 1 (by decide) (-3) (by decide) h0 h42) rfl rfl rfl ?_
  refine Rq_iret dX8_assume_41 rfl ?_
  exact ⟨rfl, y.2, y.1⟩
theorem cx_asm (d0 : Nat) {a : Int32} (x : CI h n as cs w k sv er tn tx) (hc : isLitP a) (hf : fVars as &&& fVars (fBit a) = 0) : Mq mX8_assume (d0 + 3) [.ref 0, .int a] h (qK h n (as ||| fBit a) cs w (min k 4 + 1) (svSave k sv (nI n, as, cs, w)) er tn tx (.int (bcI (as ||| fBit a)))) := by
  have x0 := x
  obtain ⟨gf, mf, h0, s, hn16, ⟨q, hi⟩, hk, hsv, ti, rd, cg, cm, wi, ⟨⟨us, g, fs, es, eo, ech, e38, e39, e40, e41⟩, -⟩, h42⟩ := x
  refine Mq_of [_, _] (by decide +kernel) rfl rfl ?_
  refine Rq_iload_n dX8_assume_0 rfl ?_
  refine Rq_callS [_] dX8_assume_1 clX8_76 (sp_isLit (d0 + 1) h hc) rfl rfl rfl ?_
  refine Rq_if_ne_t 14 dX8_assume_4 (by decide) (by decide) ?_
  refine Rq_aload_n dX8_assume_14 rfl ?_
  refine Rq_get dX8_assume_15 flX8_12 h0 rfl ?_
  refine Rq_get dX8_assume_18 flX8_123 s.1 rfl ?_
  refine Rq_callS [_] dX8_assume_21 clX8_126 (sp_varsOf (d0 + 2) h as) rfl rfl rfl ?_
  refine Rq_iload_n dX8_assume_24 rfl ?_
  refine Rq_callS [_] dX8_assume_25 clX8_99 (sp_bitOf (d0 + 1) h a) rfl rfl rfl ?_
  refine Rq_callS [_] dX8_assume_28 clX8_126 (sp_varsOf (d0 + 2) h (fBit a)) rfl rfl rfl ?_
  refine Rq_iand dX8_assume_31 ?_
  refine Rq_if_eq_t 42 dX8_assume_32 (by decide) hf ?_
  refine Rq_aload_n dX8_assume_42 rfl ?_
  refine Rq_get dX8_assume_43 flX8_19 h0 rfl ?_
  refine Rq_aload_n dX8_assume_46 rfl ?_
  refine Rq_get dX8_assume_47 flX8_12 h0 rfl ?_
  refine Rq_callVq [_] dX8_assume_50 clX8_95 rfl hi.1 (sp_save d0 hi hk s) rfl rfl rfl (fun rv h3 hq => ?_)
  obtain ⟨rfl, F, q', hi'⟩ := hq
  have k0 := F.at (by decide) h0
  have s3 : SV h3 1 (nI n, as, cs, w) := s.ag (F.ag (by decide))
  obtain ⟨t1, t2, t4⟩ := s3
  replace t1 : h3[1]? = some (obS 2 (nI n) as 3) := t1
  refine Rq_aload_n dX8_assume_53 rfl ?_
  refine Rq_get dX8_assume_54 flX8_12 k0 rfl ?_
  refine Rq_dup dX8_assume_57 rfl ?_
  refine Rq_get dX8_assume_58 flX8_123 t1 rfl ?_
  refine Rq_iload_n dX8_assume_61 rfl ?_
  refine Rq_callS [_] dX8_assume_62 clX8_99 (sp_bitOf (d0 + 1) _ a) rfl rfl rfl ?_
  refine Rq_ior dX8_assume_65 ?_
  refine Rq_put [_, _, _, _] dX8_assume_66 fpX8_123 t1 rfl (okv_i _) rfl ?_
  have j0 := hNs (e' := obS 2 (nI n) (as ||| fBit a) 3) (by decide : (1 : Nat) ≠ 0) k0
  have j38 := hNs (e' := obS 2 (nI n) (as ||| fBit a) 3) (by decide : (1 : Nat) ≠ 38) (F.at (by decide) e38)
  have F2 : Fr [1] h3 (h3.set 1 (obS 2 (nI n) (as ||| fBit a) 3)) := Fr.set (by decide)
  have j1 := hS (obS 2 (nI n) (as ||| fBit a) 3) t1
  show Rq _ _ _ _ _ (h3.set 1 (obS 2 (nI n) (as ||| fBit a) 3)) _
  generalize h3.set 1 (obS 2 (nI n) (as ||| fBit a) 3) = h4 at j0 j38 F2 j1 ⊢
  have F3 : Fr [0, 38] h4 ((h4.set 0 (obX 0 0)).set 38 (obE us (-1) fs)) := Fr.trans (Fr.set (by decide)) (Fr.set (by decide))
  refine Rq_aload_n dX8_assume_69 rfl ?_
  refine Rq_callVv [] dX8_assume_70 clX8_106 rfl j0 (sp_changed (d0 + 1) j0 j38) rfl rfl rfl ?_
  have i0 := hNs (e' := obE us (-1) fs) (by decide : (38 : Nat) ≠ 0) (hS (obX 0 0) j0)
  have i1 := F3.at (by decide) j1
  refine Rq_aload_n dX8_assume_73 rfl ?_
  refine Rq_get dX8_assume_74 flX8_12 i0 rfl ?_
  refine Rq_get dX8_assume_77 flX8_123 i1 rfl ?_
  refine Rq_callS [_] dX8_assume_80 clX8_118 (sp_bitCount (d0 + 2) _ _) rfl rfl rfl ?_
  refine Rq_iret dX8_assume_83 rfl ?_
  have FF : Fr chC h ((h4.set 0 (obX 0 0)).set 38 (obE us (-1) fs)) := (F.mono (by decide)).trans ((F2.mono (by decide)).trans (F3.mono (by decide)))
  have F4 : Fr [0, 1, 38] h3 ((h4.set 0 (obX 0 0)).set 38 (obE us (-1) fs)) := (F2.mono (by decide)).trans (F3.mono (by decide))
  obtain ⟨f2, t2, t3⟩ := t2
  obtain ⟨f4, t4, t5⟩ := t4
  have y := x0.changed (n' := n) (as' := as ||| fBit a) (cs' := cs) (w' := w) FF i0 ⟨i1, ⟨f2, F4.at (by decide) t2, t3⟩, f4, F4.at (by decide) t4, t5⟩ (by omega) ((hi'.ag (F2.ag (by decide))).ag (F3.ag (by decide))) (by omega) (svSave_ok hn16 rfl hsv) (hS _ (hNs (by decide) j38))
  exact ⟨rfl, y.2, y.1⟩
theorem cx_ret (d0 : Nat) (x : CI h n as cs w k sv er tn tx) : Mq mX8_retractAll (d0 + 3) [.ref 0] h (qK h n 0 cs w (min k 4 + 1) (svSave k sv (nI n, as, cs, w)) er tn tx (.int (bcI as))) := by
  have x0 := x
  obtain ⟨gf, mf, h0, s, hn16, ⟨q, hi⟩, hk, hsv, ti, rd, cg, cm, wi, ⟨⟨us, g, fs, es, eo, ech, e38, e39, e40, e41⟩, -⟩, h42⟩ := x
  refine Mq_of [_, _] (by decide +kernel) rfl rfl ?_
  refine Rq_aload_n dX8_retractAll_0 rfl ?_
  refine Rq_get dX8_retractAll_1 flX8_12 h0 rfl ?_
  refine Rq_get dX8_retractAll_4 flX8_123 s.1 rfl ?_
  refine Rq_callS [_] dX8_retractAll_7 clX8_118 (sp_bitCount (d0 + 2) h _) rfl rfl rfl ?_
  refine Rq_istore_n [_, _] dX8_retractAll_10 rfl rfl rfl ?_
  refine Rq_aload_n dX8_retractAll_11 rfl ?_
  refine Rq_get dX8_retractAll_12 flX8_19 h0 rfl ?_
  refine Rq_aload_n dX8_retractAll_15 rfl ?_
  refine Rq_get dX8_retractAll_16 flX8_12 h0 rfl ?_
  refine Rq_callVq [_] dX8_retractAll_19 clX8_95 rfl hi.1 (sp_save d0 hi hk s) rfl rfl rfl (fun rv h3 hq => ?_)
  obtain ⟨rfl, F, q', hi'⟩ := hq
  have k0 := F.at (by decide) h0
  have s3 : SV h3 1 (nI n, as, cs, w) := s.ag (F.ag (by decide))
  obtain ⟨t1, t2, t4⟩ := s3
  replace t1 : h3[1]? = some (obS 2 (nI n) as 3) := t1
  refine Rq_aload_n dX8_retractAll_22 rfl ?_
  refine Rq_get dX8_retractAll_23 flX8_12 k0 rfl ?_
  refine Rq_iconst (0) dX8_retractAll_26 (by decide) ?_
  refine Rq_put [_, _, _, _] dX8_retractAll_27 fpX8_123 t1 rfl (okv_i _) rfl ?_
  have j0 := hNs (e' := obS 2 (nI n) 0 3) (by decide : (1 : Nat) ≠ 0) k0
  have j38 := hNs (e' := obS 2 (nI n) 0 3) (by decide : (1 : Nat) ≠ 38) (F.at (by decide) e38)
  have F2 : Fr [1] h3 (h3.set 1 (obS 2 (nI n) 0 3)) := Fr.set (by decide)
  have j1 := hS (obS 2 (nI n) 0 3) t1
  show Rq _ _ _ _ _ (h3.set 1 (obS 2 (nI n) 0 3)) _
  generalize h3.set 1 (obS 2 (nI n) 0 3) = h4 at j0 j38 F2 j1 ⊢
  have F3 : Fr [0, 38] h4 ((h4.set 0 (obX 0 0)).set 38 (obE us (-1) fs)) := Fr.trans (Fr.set (by decide)) (Fr.set (by decide))
  refine Rq_aload_n dX8_retractAll_30 rfl ?_
  refine Rq_callVv [] dX8_retractAll_31 clX8_106 rfl j0 (sp_changed (d0 + 1) j0 j38) rfl rfl rfl ?_
  refine Rq_iload_n dX8_retractAll_34 rfl ?_
  refine Rq_iret dX8_retractAll_35 rfl ?_
  have i0 := hNs (e' := obE us (-1) fs) (by decide : (38 : Nat) ≠ 0) (hS (obX 0 0) j0)
  have i1 := F3.at (by decide) j1
  have FF : Fr chC h ((h4.set 0 (obX 0 0)).set 38 (obE us (-1) fs)) := (F.mono (by decide)).trans ((F2.mono (by decide)).trans (F3.mono (by decide)))
  have F4 : Fr [0, 1, 38] h3 ((h4.set 0 (obX 0 0)).set 38 (obE us (-1) fs)) := (F2.mono (by decide)).trans (F3.mono (by decide))
  obtain ⟨f2, t2, t3⟩ := t2
  obtain ⟨f4, t4, t5⟩ := t4
  have y := x0.changed (n' := n) (as' := 0) (cs' := cs) (w' := w) FF i0 ⟨i1, ⟨f2, F4.at (by decide) t2, t3⟩, f4, F4.at (by decide) t4, t5⟩ (by omega) ((hi'.ag (F2.ag (by decide))).ag (F3.ag (by decide))) (by omega) (svSave_ok hn16 rfl hsv) (hS _ (hNs (by decide) j38))
  exact ⟨rfl, y.2, y.1⟩
theorem cx_wt_oor (d0 : Nat) {a v : Int32} (x : CI h n as cs w k sv er tn tx) (hc : ¬ (isLitP a ∧ ¬ v < 0 ∧ v ≤ 9)) : Mq mX8_setWeight (d0 + 2) [.ref 0, .int a, .int v] h (qErr h n as cs w k sv (upd er 0 (er 0 + 1)) tn tx (-2)) := by
  have y := x.fail (upd er 0 (er 0 + 1))
  obtain ⟨gf, mf, h0, s, -, -, -, -, -, -, -, -, -, -, h42⟩ := x
  have K : Rq mX8_setWeight (d0 + 2) 17 [.ref 0, .int a, .int v] [] h (qErr h n as cs w k sv (upd er 0 (er 0 + 1)) tn tx (-2)) := by
    refine Rq_aload_n dX8_setWeight_17 rfl ?_
    refine Rq_bipush (-2) dX8_setWeight_18 (by decide) ?_
    refine Rq_callV [_] dX8_setWeight_20 clX8_83 rfl h0 (sp_fail d0 0 (by decide) (-2) (by decide) h0 h42) rfl rfl rfl ?_
    refine Rq_iret dX8_setWeight_23 rfl ?_
    exact ⟨rfl, y.2, y.1⟩
  refine Mq_of [_, _, _] (by decide +kernel) rfl rfl ?_
  by_cases c1 : isLitP a
  · by_cases c2 : v < 0
    · refine Rq_iload_n dX8_setWeight_0 rfl ?_
      refine Rq_callS [_] dX8_setWeight_1 clX8_76 (sp_isLit d0 h c1) rfl rfl rfl ?_
      refine Rq_if_eq_f 17 dX8_setWeight_4 (by decide) (by decide) ?_
      refine Rq_iload_n dX8_setWeight_7 rfl ?_
      refine Rq_if_lt_t 17 dX8_setWeight_8 (by decide) c2 ?_
      exact K
    · have c3 : ¬ v ≤ 9 := fun z => hc ⟨c1, c2, z⟩
      refine Rq_iload_n dX8_setWeight_0 rfl ?_
      refine Rq_callS [_] dX8_setWeight_1 clX8_76 (sp_isLit d0 h c1) rfl rfl rfl ?_
      refine Rq_if_eq_f 17 dX8_setWeight_4 (by decide) (by decide) ?_
      refine Rq_iload_n dX8_setWeight_7 rfl ?_
      refine Rq_if_lt_f 17 dX8_setWeight_8 (by decide) c2 ?_
      refine Rq_iload_n dX8_setWeight_11 rfl ?_
      refine Rq_bipush (9) dX8_setWeight_12 (by decide) ?_
      refine Rq_icmp_le_f 24 dX8_setWeight_14 (by decide) c3 ?_
      exact K
  · refine Rq_iload_n dX8_setWeight_0 rfl ?_
    refine Rq_callS [_] dX8_setWeight_1 clX8_76 (sp_isLitN d0 h c1) rfl rfl rfl ?_
    refine Rq_if_eq_t 17 dX8_setWeight_4 (by decide) rfl ?_
    exact K
theorem cx_wt (d0 : Nat) {a v : Int32} (x : CI h n as cs w k sv er tn tx) (hc : isLitP a) (h1 : ¬ v < 0) (h2 : v ≤ 9) : Mq mX8_setWeight (d0 + 3) [.ref 0, .int a, .int v] h (qK h n as cs (upd w (cdN a) v) (min k 4 + 1) (svSave k sv (nI n, as, cs, w)) er tn tx (.int (w (cdN a)))) := by
  have x0 := x
  obtain ⟨gf, mf, h0, s, hn16, ⟨q, hi⟩, hk, -⟩ := x
  obtain ⟨c1, c2, c3⟩ := cd_ok hc
  refine Mq_of [_, _, _] (by decide +kernel) rfl rfl ?_
  refine Rq_iload_n dX8_setWeight_0 rfl ?_
  refine Rq_callS [_] dX8_setWeight_1 clX8_76 (sp_isLit (d0 + 1) h hc) rfl rfl rfl ?_
  refine Rq_if_eq_f 17 dX8_setWeight_4 (by decide) (by decide) ?_
  refine Rq_iload_n dX8_setWeight_7 rfl ?_
  refine Rq_if_lt_f 17 dX8_setWeight_8 (by decide) h1 ?_
  refine Rq_iload_n dX8_setWeight_11 rfl ?_
  refine Rq_bipush (9) dX8_setWeight_12 (by decide) ?_
  refine Rq_icmp_le_t 24 dX8_setWeight_14 (by decide) h2 ?_
  refine Rq_aload_n dX8_setWeight_24 rfl ?_
  refine Rq_get dX8_setWeight_25 flX8_19 h0 rfl ?_
  refine Rq_aload_n dX8_setWeight_28 rfl ?_
  refine Rq_get dX8_setWeight_29 flX8_12 h0 rfl ?_
  refine Rq_callVq [_] dX8_setWeight_32 clX8_95 rfl hi.1 (sp_save d0 hi hk s) rfl rfl rfl (fun rv h3 hq => ?_)
  obtain ⟨rfl, F, q', hi'⟩ := hq
  obtain ⟨y1, y2⟩ := x0.hist hn16 rfl F hi'
  obtain ⟨gf, mf, k0, s, hn, ⟨q, hi⟩, hk, hsv, ti, rd, cg, cm, wi, ce, h42⟩ := y1
  obtain ⟨t1, t2, g, t4, t5⟩ := s
  replace t1 : h3[1]? = some (obS 2 (nI n) as 3) := t1
  replace t4 : h3[3]? = some (aI 22 g) := t4
  refine Rq_aload_n dX8_setWeight_35 rfl ?_
  refine Rq_get dX8_setWeight_36 flX8_12 k0 rfl ?_
  refine Rq_iload_n dX8_setWeight_39 rfl ?_
  refine Rq_callS [_] dX8_setWeight_40 clX8_129 (sp_codeOf (d0 + 2) _ a) rfl rfl rfl ?_
  rw [c1]
  refine Rq_iload_n dX8_setWeight_43 rfl ?_
  refine Rq_callV [_, _] dX8_setWeight_44 clX8_132 rfl t1 (sp_replaceWeight (d0 + 1) t1 t4 (show cdN a < 22 by omega)) rfl rfl rfl ?_
  refine Rq_iret dX8_setWeight_47 rfl ?_
  have F2 : Fr [3] h3 (h3.set 3 (aI 22 (upd g (cdN a) v))) := Fr.set (by decide)
  obtain ⟨f2, t2, t3⟩ := t2
  refine ⟨by rw [t5 _ (by omega)], y2.trans (F2.c (by decide)), ⟨gf, mf, F2.at (by decide) k0, ⟨F2.at (by decide) t1, ⟨f2, F2.at (by decide) t2, t3⟩, _, hS _ t4, fun j hj => ?_⟩, hn, ⟨q, hi.ag (F2.ag (by decide))⟩, hk, hsv, ti.ag (F2.ag (by decide)), rd.ag (F2.ag (by decide)), cg.fr F2 (by decide), cm.ag (F2.ag (by decide)), wi.ag (F2.ag (by decide)), ce.ag (F2.ag (by decide)), F2.at (by decide) h42⟩⟩
  simp only [upd]
  split
  · rfl
  · exact t5 j hj
end API
