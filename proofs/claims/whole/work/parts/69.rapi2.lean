/-! the reference's methods: the formula -/
def rB0 (x : Int32) : Int32 := if x = 0 then 0 else rBit x
theorem rV_or (x y : Int32) : rVars (x ||| y) = rVars x ||| rVars y := by
  apply b_ext
  intro i hi
  have q : ∀ z : Int32, bt (z >>> ((10 : Int32) &&& 31)) i = if 10 + i < 32 then bt z (10 + i) else bt z 31 := fun z => b_sshr 10 (by decide) z hi
  unfold rVars
  simp only [b_and, b_or, q]
  cases bt x i <;> cases bt y i <;> cases bt (1023 : Int32) i <;> split <;> simp
theorem or0_iff (x y : Int32) : x ||| y = 0 ↔ x = 0 ∧ y = 0 := by
  constructor
  · intro h
    constructor
    · apply b_ext
      intro i hi
      have := congrArg (fun z => bt z i) h
      simp only [b_or, b_0, Bool.or_eq_false_iff] at this
      rw [this.1, b_0]
    · apply b_ext
      intro i hi
      have := congrArg (fun z => bt z i) h
      simp only [b_or, b_0, Bool.or_eq_false_iff] at this
      rw [this.2, b_0]
  · rintro ⟨rfl, rfl⟩
    decide
theorem and_or0 (x y z : Int32) : (x ||| y) &&& z = 0 ↔ x &&& z = 0 ∧ y &&& z = 0 := by
  have e : (x ||| y) &&& z = (x &&& z) ||| (y &&& z) := by
    apply b_ext
    intro i hi
    simp only [b_and, b_or]
    cases bt x i <;> cases bt y i <;> cases bt z i <;> rfl
  rw [e, or0_iff]
theorem dv_ok : ∀ i, i < 21 → ∀ j, j < 21 → ¬ (nI j - 10 = 0) → (rVars (rB0 (nI i - 10)) &&& rVars (rBit (nI j - 10)) = 0 ↔ ¬ (¬ (nI i - 10 = 0) ∧ (nI i - 10 = nI j - 10 ∨ nI i - 10 = -(nI j - 10)))) := by decide +kernel
theorem sv0 {x y : Int32} (hx : isLzP x) (hy : isLitP y) : rVars (rB0 x) &&& rVars (rBit y) = 0 ↔ ¬ sameP x y := by
  obtain ⟨i, hi, rfl⟩ := lz_cases hx
  obtain ⟨j, hj, rfl⟩ := lz_cases hy.2
  exact dv_ok i hi j hj hy.1
def dj (c l : Int32) : Bool := decide (l = 0 ∨ rVars c &&& rVars (rBit l) = 0)
theorem same0 (x : Int32) : ¬ sameP x 0 := fun z => z.1 (z.2.elim id (fun e => e.trans (by decide)))
theorem dj1 {x l : Int32} (hx : isLzP x) (hl : isLzP l) : (l = 0 ∨ rVars (rB0 x) &&& rVars (rBit l) = 0) ↔ ¬ sameP x l := by
  by_cases c : l = 0
  · subst c
    exact ⟨fun _ => same0 x, fun _ => Or.inl rfl⟩
  · rw [← sv0 hx ⟨c, hl⟩]
    exact ⟨fun z => z.resolve_left c, Or.inr⟩
theorem dj_or (x y l : Int32) : (l = 0 ∨ rVars (x ||| y) &&& rVars (rBit l) = 0) ↔ (l = 0 ∨ rVars x &&& rVars (rBit l) = 0) ∧ (l = 0 ∨ rVars y &&& rVars (rBit l) = 0) := by
  rw [rV_or, and_or0]
  by_cases c : l = 0
  · simp [c]
  · simp [c]
/-- the clause of four literals -/
def R4 (a b c d : Int32) : Int32 := rB0 a ||| rB0 b ||| rB0 c ||| rB0 d
theorem well_iff {a b c d : Int32} (h : aOK a b c d) : (((true && dj (rB0 a) b) && dj (rB0 a ||| rB0 b) c) && dj (rB0 a ||| rB0 b ||| rB0 c) d) = true ↔ ¬ aCf a b c d := by
  obtain ⟨⟨ha, ha2⟩, hb, hc, hd⟩ := h
  have ha' : isLzP a := ha2
  simp only [Bool.and_eq_true, dj, decide_eq_true_eq, dj_or, dj1 ha' hb, dj1 ha' hc, dj1 hb hc, dj1 ha' hd, dj1 hb hd, dj1 hc hd, aCf, not_or]
  constructor
  · rintro ⟨⟨⟨-, h1⟩, h2, h3⟩, ⟨h4, h5⟩, h6⟩
    exact ⟨h1, h2, h4, h3, h5, h6⟩
  · rintro ⟨h1, h2, h4, h3, h5, h6⟩
    exact ⟨⟨⟨trivial, h1⟩, h2, h3⟩, ⟨h4, h5⟩, h6⟩
theorem vW_or {x y : Int32} (hx : vW x) (hy : vW y) : vW (x ||| y) := by
  obtain ⟨a, ha, rfl⟩ := hx
  obtain ⟨b, hb, rfl⟩ := hy
  refine ⟨a ||| b, Nat.or_lt_two_pow (n := 20) ha hb, ?_⟩
  apply b_ext
  intro i hi
  rw [b_or, bt_nI hi, bt_nI hi, bt_nI hi, Nat.testBit_or]
theorem vW_nI {x : Int32} (h : x.toBitVec.toNat < 1048576) : vW x := ⟨_, h, Int32.toBitVec_inj.mp (by show _ = BitVec.ofNat 32 _; simp)⟩
theorem rB0_w {x : Int32} (hx : isLzP x) : vW (rB0 x) := by
  obtain ⟨i, hi, rfl⟩ := lz_cases hx
  refine vW_nI ?_
  have : ∀ i, i < 21 → (rB0 (nI i - 10)).toBitVec.toNat < 1048576 := by decide +kernel
  exact this i hi
theorem R4_w {a b c d : Int32} (h : aOK a b c d) : vW (R4 a b c d) := vW_or (vW_or (vW_or (rB0_w h.1.2) (rB0_w h.2.1)) (rB0_w h.2.2.1)) (rB0_w h.2.2.2)
section RF
variable {h : Hp} {S V er tx : Nat → Int32} {n sm tn : Nat} {ic nm rm hf ht rt mm il sp rdm : Int32}
theorem RI.chg {h' : Hp} {S' V' : Nat → Int32} {n' sm' : Nat} (x : RI h S V er tx n sm tn) (F : Fr [43, 44, 45, 61] h h') (k43 : h'[43]? = some (obM (nI sm') (nI tn) 0 nm rm hf ht rt mm 0 sp rdm)) (k44 : h'[44]? = some (aI 39 S')) (s0 : S' 0 = nI n') (n16 : n' ≤ 16) (sv : ∀ k, k < n' → vW (S' (1 + k))) (k45 : h'[45]? = some (aI 195 V')) (sm5 : sm' ≤ 5) (vo : ∀ i, i < sm' → okS V' (39 * i)) (k61 : ∃ rc, h'[61]? = some (aI 16 rc)) : Fr mC h h' ∧ RI h' S' V' er tx n' sm' tn := by
  obtain ⟨ic', nm', rm', hf', ht', rt', mm', il', sp', rdm', -, -, -, -, -, -, -, -, k46, k47, tl, rg, rmm, -⟩ := x
  exact ⟨F.mono (by decide), 0, nm, rm, hf, ht, rt, mm, 0, sp, rdm, k43, k44, s0, n16, sv, k45, sm5, vo, F.at (by decide) k46, F.at (by decide) k47, tl, (rg.ag (F.ag (by decide))).z, (rmm.at (F.2 60 (by decide))).z, k61⟩
theorem svV_at {sm : Nat} (h5 : sm ≤ 5) {i k : Nat} (hi : i ≤ min sm 4) (hk : k < 39) : svV sm V S (39 * i + k) = if i = min sm 4 then S k else V (39 * (if sm = 5 then i + 1 else i) + k) := by
  unfold svV
  by_cases c : i = min sm 4
  · rw [if_pos c, fb_put_in (by omega) (by omega)]
    exact congrArg S (by omega)
  · rw [if_neg c, fb_put_out (by omega)]
    by_cases c5 : sm = 5
    · rw [if_pos c5, if_pos c5, fb_put_in (by omega) (by omega)]
      exact congrArg V (by omega)
    · rw [if_neg c5, if_neg c5]
theorem okS_sav {sm : Nat} (h5 : sm ≤ 5) (s0 : S 0 = nI n) (n16 : n ≤ 16) (sv : ∀ k, k < n → vW (S (1 + k))) (vo : ∀ i, i < sm → okS V (39 * i)) : ∀ i, i < min sm 4 + 1 → okS (svV sm V S) (39 * i) := by
  intro i hi
  have hi' : i ≤ min sm 4 := by omega
  by_cases c : i = min sm 4
  · refine ⟨n, n16, ?_, fun k hk => ?_⟩
    · have := svV_at (S := S) (V := V) h5 hi' (k := 0) (by decide)
      rw [if_pos c, s0] at this
      exact this
    · rw [svV_at h5 hi' (by omega), if_pos c]
      exact sv k hk
  · have q := vo (if sm = 5 then i + 1 else i) (by split <;> omega)
    obtain ⟨m, m16, e1, e2⟩ := q
    refine ⟨m, m16, ?_, fun k hk => ?_⟩
    · have := svV_at (S := S) (V := V) h5 hi' (k := 0) (by decide)
      rw [if_neg c] at this
      exact this.trans e1
    · rw [svV_at h5 hi' (by omega), if_neg c]
      exact e2 k hk
theorem ri_save (d : Nat) (x : RI h S V er tx n sm tn) (k43 : h[43]? = some (obM (nI sm) (nI tn) ic nm rm hf ht rt mm il sp rdm)) : Mq mX9_saves d [.ref 43] h (fun r h' => r = none ∧ Fr [43, 45] h h' ∧ h'[44]? = some (aI 39 S) ∧ h'[43]? = some (obM (nI (min sm 4 + 1)) (nI tn) 0 nm rm hf ht rt mm 0 sp rdm) ∧ h'[45]? = some (aI 195 (svV sm V S)) ∧ (∀ i, i < min sm 4 + 1 → okS (svV sm V S) (39 * i))) := by
  obtain ⟨ic', nm', rm', hf', ht', rt', mm', il', sp', rdm', -, k44, s0, n16, sv, k45, sm5, vo, -⟩ := x
  have F : Fr [43, 45] h ((h.set 45 (aI 195 (svV sm V S))).set 43 (obM (nI (min sm 4 + 1)) (nI tn) 0 nm rm hf ht rt mm 0 sp rdm)) := Fr.trans (Fr.set (by decide)) (Fr.set (by decide))
  exact ⟨_, _, ⟨rfl, F, F.at (by decide) k44, hS _ (hNs (by decide) k43), hNs (by decide) (hS _ k45), okS_sav sm5 s0 n16 sv vo⟩, rp_saves d sm5 k43 k44 k45⟩
theorem RI.k43 (x : RI h S V er tx n sm tn) : ∃ ic nm rm hf ht rt mm il sp rdm, h[43]? = some (obM (nI sm) (nI tn) ic nm rm hf ht rt mm il sp rdm) ∧ h[44]? = some (aI 39 S) ∧ S 0 = nI n ∧ n ≤ 16 ∧ (∀ k, k < n → vW (S (1 + k))) ∧ sm ≤ 5 ∧ h[46]? = some (aI 4 er) ∧ h[47]? = some (aI 150 tx) ∧ tn ≤ 150 ∧ (∃ rc, h[61]? = some (aI 16 rc)) ∧ h[45]? = some (aI 195 V) ∧ (∀ i, i < sm → okS V (39 * i)) := by
  obtain ⟨ic, nm, rm, hf, ht, rt, mm, il, sp, rdm, k43, k44, s0, n16, sv, k45, sm5, vo, k46, k47, tl, rg, rmm, rc, k61⟩ := x
  exact ⟨ic, nm, rm, hf, ht, rt, mm, il, sp, rdm, k43, k44, s0, n16, sv, sm5, k46, k47, tl, ⟨rc, k61⟩, k45, vo⟩
theorem bI_and1 (b : Bool) : b2i b &&& 1 = b2i b := by cases b <;> decide
theorem rx_add_oor (d0 : Nat) {a b c d : Int32} (x : RI h S V er tx n sm tn) (hc : ¬ aOK a b c d) : Mq mX9_addClause (d0 + 1) [.ref 43, .int a, .int b, .int c, .int d] h (qR h S V (upd er 0 (er 0 + 1)) tx n sm tn (.int (-2))) := by
  have y := x.err (upd er 0 (er 0 + 1))
  obtain ⟨ic, nm, rm, hf, ht, rt, mm, il, sp, rdm, k43, k44, s0, n16, sv, sm5, k46, -⟩ := x.k43
  refine Mq_of [_, _, _, _, _, _, _, _, _, _] (by decide +kernel) rfl rfl ?_
  have K : Rq mX9_addClause (d0 + 1) 61 [.ref 43, .int a, .int b, .int c, .int d, .retAddr 0, .retAddr 0, .retAddr 0, .retAddr 0, .retAddr 0] [] h (qR h S V (upd er 0 (er 0 + 1)) tx n sm tn (.int (-2))) := by
    refine Rq_aload_n dX9_addClause_61 rfl ?_
    refine Rq_bipush (-2) dX9_addClause_62 (by decide) ?_
    refine Rq_callV [_] dX9_addClause_64 clX9_84 rfl k43 (rp_err d0 0 (by decide) (-2) (by decide) k43 k46) rfl rfl rfl ?_
    refine Rq_iret dX9_addClause_67 rfl ?_
    exact ⟨rfl, Fr.set (by decide), y⟩
  by_cases c0 : a = 0
  · refine Rq_iload_n dX9_addClause_0 rfl ?_
    refine Rq_if_eq_t 61 dX9_addClause_1 (by decide) c0 ?_
    exact K
  · by_cases c1 : isLzP a
    · by_cases c2 : isLzP b
      · by_cases c3 : isLzP c
        · have c4 : ¬ isLzP d := fun z => hc ⟨⟨c0, c1⟩, c2, c3, z⟩
          refine Rq_iload_n dX9_addClause_0 rfl ?_
          refine Rq_if_eq_f 61 dX9_addClause_1 (by decide) c0 ?_
          refine Rq_iload_n dX9_addClause_4 rfl ?_
          refine Rq_i2l dX9_addClause_5 ?_
          refine Rq_ldc2 dX9_addClause_6 kcX9_65 ?_
          refine Rq_ldc2 dX9_addClause_9 kcX9_67 ?_
          refine Rq_callS [_, _, _] dX9_addClause_12 clX9_69 (rp_in10_t d0 h c1) rfl rfl rfl ?_
          refine Rq_if_eq_f 61 dX9_addClause_15 (by decide) (by decide) ?_
          refine Rq_iload_n dX9_addClause_18 rfl ?_
          refine Rq_i2l dX9_addClause_19 ?_
          refine Rq_ldc2 dX9_addClause_20 kcX9_65 ?_
          refine Rq_ldc2 dX9_addClause_23 kcX9_67 ?_
          refine Rq_callS [_, _, _] dX9_addClause_26 clX9_69 (rp_in10_t d0 h c2) rfl rfl rfl ?_
          refine Rq_if_eq_f 61 dX9_addClause_29 (by decide) (by decide) ?_
          refine Rq_iload_n dX9_addClause_32 rfl ?_
          refine Rq_i2l dX9_addClause_33 ?_
          refine Rq_ldc2 dX9_addClause_34 kcX9_65 ?_
          refine Rq_ldc2 dX9_addClause_37 kcX9_67 ?_
          refine Rq_callS [_, _, _] dX9_addClause_40 clX9_69 (rp_in10_t d0 h c3) rfl rfl rfl ?_
          refine Rq_if_eq_f 61 dX9_addClause_43 (by decide) (by decide) ?_
          refine Rq_iload dX9_addClause_46 rfl ?_
          refine Rq_i2l dX9_addClause_48 ?_
          refine Rq_ldc2 dX9_addClause_49 kcX9_65 ?_
          refine Rq_ldc2 dX9_addClause_52 kcX9_67 ?_
          refine Rq_callS [_, _, _] dX9_addClause_55 clX9_69 (rp_in10_f d0 h c4) rfl rfl rfl ?_
          refine Rq_if_ne_f 68 dX9_addClause_58 (by decide) rfl ?_
          exact K
        · refine Rq_iload_n dX9_addClause_0 rfl ?_
          refine Rq_if_eq_f 61 dX9_addClause_1 (by decide) c0 ?_
          refine Rq_iload_n dX9_addClause_4 rfl ?_
          refine Rq_i2l dX9_addClause_5 ?_
          refine Rq_ldc2 dX9_addClause_6 kcX9_65 ?_
          refine Rq_ldc2 dX9_addClause_9 kcX9_67 ?_
          refine Rq_callS [_, _, _] dX9_addClause_12 clX9_69 (rp_in10_t d0 h c1) rfl rfl rfl ?_
          refine Rq_if_eq_f 61 dX9_addClause_15 (by decide) (by decide) ?_
          refine Rq_iload_n dX9_addClause_18 rfl ?_
          refine Rq_i2l dX9_addClause_19 ?_
          refine Rq_ldc2 dX9_addClause_20 kcX9_65 ?_
          refine Rq_ldc2 dX9_addClause_23 kcX9_67 ?_
          refine Rq_callS [_, _, _] dX9_addClause_26 clX9_69 (rp_in10_t d0 h c2) rfl rfl rfl ?_
          refine Rq_if_eq_f 61 dX9_addClause_29 (by decide) (by decide) ?_
          refine Rq_iload_n dX9_addClause_32 rfl ?_
          refine Rq_i2l dX9_addClause_33 ?_
          refine Rq_ldc2 dX9_addClause_34 kcX9_65 ?_
          refine Rq_ldc2 dX9_addClause_37 kcX9_67 ?_
          refine Rq_callS [_, _, _] dX9_addClause_40 clX9_69 (rp_in10_f d0 h c3) rfl rfl rfl ?_
          refine Rq_if_eq_t 61 dX9_addClause_43 (by decide) rfl ?_
          exact K
      · refine Rq_iload_n dX9_addClause_0 rfl ?_
        refine Rq_if_eq_f 61 dX9_addClause_1 (by decide) c0 ?_
        refine Rq_iload_n dX9_addClause_4 rfl ?_
        refine Rq_i2l dX9_addClause_5 ?_
        refine Rq_ldc2 dX9_addClause_6 kcX9_65 ?_
        refine Rq_ldc2 dX9_addClause_9 kcX9_67 ?_
        refine Rq_callS [_, _, _] dX9_addClause_12 clX9_69 (rp_in10_t d0 h c1) rfl rfl rfl ?_
        refine Rq_if_eq_f 61 dX9_addClause_15 (by decide) (by decide) ?_
        refine Rq_iload_n dX9_addClause_18 rfl ?_
        refine Rq_i2l dX9_addClause_19 ?_
        refine Rq_ldc2 dX9_addClause_20 kcX9_65 ?_
        refine Rq_ldc2 dX9_addClause_23 kcX9_67 ?_
        refine Rq_callS [_, _, _] dX9_addClause_26 clX9_69 (rp_in10_f d0 h c2) rfl rfl rfl ?_
        refine Rq_if_eq_t 61 dX9_addClause_29 (by decide) rfl ?_
        exact K
    · refine Rq_iload_n dX9_addClause_0 rfl ?_
      refine Rq_if_eq_f 61 dX9_addClause_1 (by decide) c0 ?_
      refine Rq_iload_n dX9_addClause_4 rfl ?_
      refine Rq_i2l dX9_addClause_5 ?_
      refine Rq_ldc2 dX9_addClause_6 kcX9_65 ?_
      refine Rq_ldc2 dX9_addClause_9 kcX9_67 ?_
      refine Rq_callS [_, _, _] dX9_addClause_12 clX9_69 (rp_in10_f d0 h c1) rfl rfl rfl ?_
      refine Rq_if_eq_t 61 dX9_addClause_15 (by decide) rfl ?_
      exact K
theorem add_tail (d0 : Nat) {a b c d l cl kk : Int32} {w : Bool} {Q : Option Value → Hp → Prop} (K : Rq mX9_addClause (d0 + 1) 80 [.ref 43, .int a, .int b, .int c, .int d, .int (cl ||| rB0 l), .int (b2i (w && dj cl l)), .int (kk + 1), .retAddr 0, .retAddr 0] [] h Q) : Rq mX9_addClause (d0 + 1) 109 [.ref 43, .int a, .int b, .int c, .int d, .int cl, .int (b2i w), .int kk, .int l, .retAddr 0] [] h Q := by
  unfold rB0 dj at K
  by_cases c1 : l = 0
  · rw [if_pos c1, Int32.or_zero, decide_eq_true (Or.inl c1), Bool.and_true] at K
    refine Rq_iload dX9_addClause_109 rfl ?_
    refine Rq_if_eq_t 154 dX9_addClause_111 (by decide) c1 ?_
    refine Rq_iinc [_, _, _, _, _, _, _, _, _, _] (1) dX9_addClause_154 rfl (by decide) rfl rfl rfl ?_
    refine Rq_goto 80 dX9_addClause_157 (by decide) ?_
    refine Rq_dead [_, _, _, _, _, _, _, _, .retAddr 0, _] ⟨Or.inr rfl, Or.inr rfl, Or.inr rfl, Or.inr rfl, Or.inr rfl, Or.inr rfl, Or.inr rfl, Or.inr rfl, Or.inl rfl, Or.inr rfl, trivial⟩ ?_
    exact K
  · rw [if_neg c1] at K
    cases w with
    | false =>
      refine Rq_iload dX9_addClause_109 rfl ?_
      refine Rq_if_eq_f 154 dX9_addClause_111 (by decide) c1 ?_
      refine Rq_iload dX9_addClause_114 rfl ?_
      refine Rq_callS [_] dX9_addClause_116 clX9_88 (rp_bitOf d0 h l) rfl rfl rfl ?_
      refine Rq_istore [_, _, _, _, _, _, _, _, _, _] dX9_addClause_119 rfl rfl rfl ?_
      refine Rq_iload dX9_addClause_121 rfl ?_
      refine Rq_if_eq_t 144 dX9_addClause_123 (by decide) rfl ?_
      refine Rq_iconst (0) dX9_addClause_144 (by decide) ?_
      refine Rq_istore [_, _, _, _, _, _, _, _, _, _] dX9_addClause_145 rfl rfl rfl ?_
      refine Rq_iload dX9_addClause_147 rfl ?_
      refine Rq_iload dX9_addClause_149 rfl ?_
      refine Rq_ior dX9_addClause_151 ?_
      refine Rq_istore [_, _, _, _, _, _, _, _, _, _] dX9_addClause_152 rfl rfl rfl ?_
      refine Rq_iinc [_, _, _, _, _, _, _, _, _, _] (1) dX9_addClause_154 rfl (by decide) rfl rfl rfl ?_
      refine Rq_goto 80 dX9_addClause_157 (by decide) ?_
      refine Rq_dead [_, _, _, _, _, _, _, _, .retAddr 0, .retAddr 0] ⟨Or.inr rfl, Or.inr rfl, Or.inr rfl, Or.inr rfl, Or.inr rfl, Or.inr rfl, Or.inr rfl, Or.inr rfl, Or.inl rfl, Or.inl rfl, trivial⟩ ?_
      exact K
    | true =>
      by_cases c2 : rVars cl &&& rVars (rBit l) = 0
      · rw [decide_eq_true (Or.inr c2)] at K
        refine Rq_iload dX9_addClause_109 rfl ?_
        refine Rq_if_eq_f 154 dX9_addClause_111 (by decide) c1 ?_
        refine Rq_iload dX9_addClause_114 rfl ?_
        refine Rq_callS [_] dX9_addClause_116 clX9_88 (rp_bitOf d0 h l) rfl rfl rfl ?_
        refine Rq_istore [_, _, _, _, _, _, _, _, _, _] dX9_addClause_119 rfl rfl rfl ?_
        refine Rq_iload dX9_addClause_121 rfl ?_
        refine Rq_if_eq_f 144 dX9_addClause_123 (by decide) (by decide) ?_
        refine Rq_iload dX9_addClause_126 rfl ?_
        refine Rq_callS [_] dX9_addClause_128 clX9_91 (rp_vars d0 h cl) rfl rfl rfl ?_
        refine Rq_iload dX9_addClause_131 rfl ?_
        refine Rq_callS [_] dX9_addClause_133 clX9_91 (rp_vars d0 h (rBit l)) rfl rfl rfl ?_
        refine Rq_iand dX9_addClause_136 ?_
        refine Rq_if_ne_f 144 dX9_addClause_137 (by decide) c2 ?_
        refine Rq_iconst (1) dX9_addClause_140 (by decide) ?_
        refine Rq_goto 145 dX9_addClause_141 (by decide) ?_
        refine Rq_istore [_, _, _, _, _, _, _, _, _, _] dX9_addClause_145 rfl rfl rfl ?_
        refine Rq_iload dX9_addClause_147 rfl ?_
        refine Rq_iload dX9_addClause_149 rfl ?_
        refine Rq_ior dX9_addClause_151 ?_
        refine Rq_istore [_, _, _, _, _, _, _, _, _, _] dX9_addClause_152 rfl rfl rfl ?_
        refine Rq_iinc [_, _, _, _, _, _, _, _, _, _] (1) dX9_addClause_154 rfl (by decide) rfl rfl rfl ?_
        refine Rq_goto 80 dX9_addClause_157 (by decide) ?_
        refine Rq_dead [_, _, _, _, _, _, _, _, .retAddr 0, .retAddr 0] ⟨Or.inr rfl, Or.inr rfl, Or.inr rfl, Or.inr rfl, Or.inr rfl, Or.inr rfl, Or.inr rfl, Or.inr rfl, Or.inl rfl, Or.inl rfl, trivial⟩ ?_
        exact K
      · rw [decide_eq_false (fun z => z.elim c1 c2)] at K
        refine Rq_iload dX9_addClause_109 rfl ?_
        refine Rq_if_eq_f 154 dX9_addClause_111 (by decide) c1 ?_
        refine Rq_iload dX9_addClause_114 rfl ?_
        refine Rq_callS [_] dX9_addClause_116 clX9_88 (rp_bitOf d0 h l) rfl rfl rfl ?_
        refine Rq_istore [_, _, _, _, _, _, _, _, _, _] dX9_addClause_119 rfl rfl rfl ?_
        refine Rq_iload dX9_addClause_121 rfl ?_
        refine Rq_if_eq_f 144 dX9_addClause_123 (by decide) (by decide) ?_
        refine Rq_iload dX9_addClause_126 rfl ?_
        refine Rq_callS [_] dX9_addClause_128 clX9_91 (rp_vars d0 h cl) rfl rfl rfl ?_
        refine Rq_iload dX9_addClause_131 rfl ?_
        refine Rq_callS [_] dX9_addClause_133 clX9_91 (rp_vars d0 h (rBit l)) rfl rfl rfl ?_
        refine Rq_iand dX9_addClause_136 ?_
        refine Rq_if_ne_t 144 dX9_addClause_137 (by decide) c2 ?_
        refine Rq_iconst (0) dX9_addClause_144 (by decide) ?_
        refine Rq_istore [_, _, _, _, _, _, _, _, _, _] dX9_addClause_145 rfl rfl rfl ?_
        refine Rq_iload dX9_addClause_147 rfl ?_
        refine Rq_iload dX9_addClause_149 rfl ?_
        refine Rq_ior dX9_addClause_151 ?_
        refine Rq_istore [_, _, _, _, _, _, _, _, _, _] dX9_addClause_152 rfl rfl rfl ?_
        refine Rq_iinc [_, _, _, _, _, _, _, _, _, _] (1) dX9_addClause_154 rfl (by decide) rfl rfl rfl ?_
        refine Rq_goto 80 dX9_addClause_157 (by decide) ?_
        refine Rq_dead [_, _, _, _, _, _, _, _, .retAddr 0, .retAddr 0] ⟨Or.inr rfl, Or.inr rfl, Or.inr rfl, Or.inr rfl, Or.inr rfl, Or.inr rfl, Or.inr rfl, Or.inr rfl, Or.inl rfl, Or.inl rfl, trivial⟩ ?_
        exact K
theorem add_160 (d0 : Nat) {a b c d : Int32} {Q : Option Value → Hp → Prop} (hc : aOK a b c d) {wl : Bool} (hw : wl = true ↔ ¬ aCf a b c d) (K : Rq mX9_addClause (d0 + 1) 160 [.ref 43, .int a, .int b, .int c, .int d, .int (R4 a b c d), .int (b2i wl), .retAddr 0, .retAddr 0, .retAddr 0] [] h Q) : Mq mX9_addClause (d0 + 1) [.ref 43, .int a, .int b, .int c, .int d] h Q := by
  have e : (((true && dj (rB0 a) b) && dj (rB0 a ||| rB0 b) c) && dj (rB0 a ||| rB0 b ||| rB0 c) d) = wl := by
    rw [Bool.eq_iff_iff, well_iff hc, hw]
  rw [← e] at K
  obtain ⟨⟨c0, c1⟩, c2, c3, c4⟩ := hc
  have ea : rBit a = rB0 a := by unfold rB0; rw [if_neg c0]
  refine Mq_of [_, _, _, _, _, _, _, _, _, _] (by decide +kernel) rfl rfl ?_
  refine Rq_iload_n dX9_addClause_0 rfl ?_
  refine Rq_if_eq_f 61 dX9_addClause_1 (by decide) c0 ?_
  refine Rq_iload_n dX9_addClause_4 rfl ?_
  refine Rq_i2l dX9_addClause_5 ?_
  refine Rq_ldc2 dX9_addClause_6 kcX9_65 ?_
  refine Rq_ldc2 dX9_addClause_9 kcX9_67 ?_
  refine Rq_callS [_, _, _] dX9_addClause_12 clX9_69 (rp_in10_t d0 h c1) rfl rfl rfl ?_
  refine Rq_if_eq_f 61 dX9_addClause_15 (by decide) (by decide) ?_
  refine Rq_iload_n dX9_addClause_18 rfl ?_
  refine Rq_i2l dX9_addClause_19 ?_
  refine Rq_ldc2 dX9_addClause_20 kcX9_65 ?_
  refine Rq_ldc2 dX9_addClause_23 kcX9_67 ?_
  refine Rq_callS [_, _, _] dX9_addClause_26 clX9_69 (rp_in10_t d0 h c2) rfl rfl rfl ?_
  refine Rq_if_eq_f 61 dX9_addClause_29 (by decide) (by decide) ?_
  refine Rq_iload_n dX9_addClause_32 rfl ?_
  refine Rq_i2l dX9_addClause_33 ?_
  refine Rq_ldc2 dX9_addClause_34 kcX9_65 ?_
  refine Rq_ldc2 dX9_addClause_37 kcX9_67 ?_
  refine Rq_callS [_, _, _] dX9_addClause_40 clX9_69 (rp_in10_t d0 h c3) rfl rfl rfl ?_
  refine Rq_if_eq_f 61 dX9_addClause_43 (by decide) (by decide) ?_
  refine Rq_iload dX9_addClause_46 rfl ?_
  refine Rq_i2l dX9_addClause_48 ?_
  refine Rq_ldc2 dX9_addClause_49 kcX9_65 ?_
  refine Rq_ldc2 dX9_addClause_52 kcX9_67 ?_
  refine Rq_callS [_, _, _] dX9_addClause_55 clX9_69 (rp_in10_t d0 h c4) rfl rfl rfl ?_
  refine Rq_if_ne_t 68 dX9_addClause_58 (by decide) (by decide) ?_
  refine Rq_iload_n dX9_addClause_68 rfl ?_
  refine Rq_callS [_] dX9_addClause_69 clX9_88 (rp_bitOf d0 h a) rfl rfl rfl ?_
  refine Rq_istore [_, _, _, _, _, _, _, _, _, _] dX9_addClause_72 rfl rfl rfl ?_
  refine Rq_iconst (1) dX9_addClause_74 (by decide) ?_
  refine Rq_istore [_, _, _, _, _, _, _, _, _, _] dX9_addClause_75 rfl rfl rfl ?_
  refine Rq_iconst (0) dX9_addClause_77 (by decide) ?_
  refine Rq_istore [_, _, _, _, _, _, _, _, _, _] dX9_addClause_78 rfl rfl rfl ?_
  rw [ea]
  refine Rq_iload dX9_addClause_80 rfl ?_
  refine Rq_iconst (3) dX9_addClause_82 (by decide) ?_
  refine Rq_icmp_ge_f 160 dX9_addClause_83 (by decide) (by decide) ?_
  refine Rq_iload dX9_addClause_86 rfl ?_
  refine Rq_if_ne_f 95 dX9_addClause_88 (by decide) rfl ?_
  refine Rq_iload_n dX9_addClause_91 rfl ?_
  refine Rq_goto 107 dX9_addClause_92 (by decide) ?_
  refine Rq_istore [_, _, _, _, _, _, _, _, _, _] dX9_addClause_107 rfl rfl rfl ?_
  refine add_tail (w := true) d0 ?_
  refine Rq_iload dX9_addClause_80 rfl ?_
  refine Rq_iconst (3) dX9_addClause_82 (by decide) ?_
  refine Rq_icmp_ge_f 160 dX9_addClause_83 (by decide) (by decide) ?_
  refine Rq_iload dX9_addClause_86 rfl ?_
  refine Rq_if_ne_t 95 dX9_addClause_88 (by decide) (by decide) ?_
  refine Rq_iload dX9_addClause_95 rfl ?_
  refine Rq_iconst (1) dX9_addClause_97 (by decide) ?_
  refine Rq_icmp_ne_f 105 dX9_addClause_98 (by decide) rfl ?_
  refine Rq_iload_n dX9_addClause_101 rfl ?_
  refine Rq_goto 107 dX9_addClause_102 (by decide) ?_
  refine Rq_istore [_, _, _, _, _, _, _, _, _, _] dX9_addClause_107 rfl rfl rfl ?_
  refine add_tail d0 ?_
  refine Rq_iload dX9_addClause_80 rfl ?_
  refine Rq_iconst (3) dX9_addClause_82 (by decide) ?_
  refine Rq_icmp_ge_f 160 dX9_addClause_83 (by decide) (by decide) ?_
  refine Rq_iload dX9_addClause_86 rfl ?_
  refine Rq_if_ne_t 95 dX9_addClause_88 (by decide) (by decide) ?_
  refine Rq_iload dX9_addClause_95 rfl ?_
  refine Rq_iconst (1) dX9_addClause_97 (by decide) ?_
  refine Rq_icmp_ne_t 105 dX9_addClause_98 (by decide) (by decide) ?_
  refine Rq_iload dX9_addClause_105 rfl ?_
  refine Rq_istore [_, _, _, _, _, _, _, _, _, _] dX9_addClause_107 rfl rfl rfl ?_
  refine add_tail d0 ?_
  refine Rq_iload dX9_addClause_80 rfl ?_
  refine Rq_iconst (3) dX9_addClause_82 (by decide) ?_
  refine Rq_icmp_ge_t 160 dX9_addClause_83 (by decide) (by decide) ?_
  refine Rq_dead [_, _, _, _, _, _, _, .retAddr 0, _, _] ⟨Or.inr rfl, Or.inr rfl, Or.inr rfl, Or.inr rfl, Or.inr rfl, Or.inr rfl, Or.inr rfl, Or.inl rfl, Or.inr rfl, Or.inr rfl, trivial⟩ ?_
  exact K
theorem rx_add_cf (d0 : Nat) {a b c d : Int32} (x : RI h S V er tx n sm tn) (hc : aOK a b c d) (hf : aCf a b c d) : Mq mX9_addClause (d0 + 1) [.ref 43, .int a, .int b, .int c, .int d] h (qR h S V (upd er 1 (er 1 + 1)) tx n sm tn (.int (-3))) := by
  have y := x.err (upd er 1 (er 1 + 1))
  obtain ⟨ic, nm, rm, hf', ht, rt, mm, il, sp, rdm, k43, k44, s0, n16, sv, sm5, k46, -⟩ := x.k43
  refine add_160 d0 hc (wl := false) ⟨(fun z => Bool.noConfusion z), (fun z => absurd hf z)⟩ ?_
  refine Rq_iload dX9_addClause_160 rfl ?_
  refine Rq_if_ne_f 172 dX9_addClause_162 (by decide) rfl ?_
  refine Rq_aload_n dX9_addClause_165 rfl ?_
  refine Rq_bipush (-3) dX9_addClause_166 (by decide) ?_
  refine Rq_callV [_] dX9_addClause_168 clX9_84 rfl k43 (rp_err d0 1 (by decide) (-3) (by decide) k43 k46) rfl rfl rfl ?_
  refine Rq_iret dX9_addClause_171 rfl ?_
  exact ⟨rfl, Fr.set (by decide), y⟩
theorem rx_add_full (d0 : Nat) {a b c d : Int32} (x : RI h S V er tx n sm tn) (hc : aOK a b c d) (hf : ¬ aCf a b c d) (hn : n = 16) : Mq mX9_addClause (d0 + 1) [.ref 43, .int a, .int b, .int c, .int d] h (qR h S V (upd er 2 (er 2 + 1)) tx n sm tn (.int (-4))) := by
  have y := x.err (upd er 2 (er 2 + 1))
  obtain ⟨ic, nm, rm, hf', ht, rt, mm, il, sp, rdm, k43, k44, s0, n16, sv, sm5, k46, -⟩ := x.k43
  refine add_160 d0 hc (wl := true) ⟨fun _ => hf, fun _ => rfl⟩ ?_
  refine Rq_iload dX9_addClause_160 rfl ?_
  refine Rq_if_ne_t 172 dX9_addClause_162 (by decide) (by decide) ?_
  refine Rq_aload_n dX9_addClause_172 rfl ?_
  refine Rq_get dX9_addClause_173 flX9_7 k43 rfl ?_
  refine Rq_iconst (0) dX9_addClause_176 (by decide) ?_
  refine Rq_iald 0 dX9_addClause_177 k44 (by decide) (by decide) rfl ?_
  refine Rq_bipush (16) dX9_addClause_178 (by decide) ?_
  refine Rq_icmp_ne_f 190 dX9_addClause_180 (by decide) (by rw [s0, hn]; rfl) ?_
  refine Rq_aload_n dX9_addClause_183 rfl ?_
  refine Rq_bipush (-4) dX9_addClause_184 (by decide) ?_
  refine Rq_callV [_] dX9_addClause_186 clX9_84 rfl k43 (rp_err d0 2 (by decide) (-4) (by decide) k43 k46) rfl rfl rfl ?_
  refine Rq_iret dX9_addClause_189 rfl ?_
  exact ⟨rfl, Fr.set (by decide), y⟩
def addS (S : Nat → Int32) (n : Nat) (cl : Int32) : Nat → Int32 := upd (upd S (1 + n) cl) 0 (nI (n + 1))
theorem addS_ok {cl : Int32} (hv : vW cl) (sv : ∀ k, k < n → vW (S (1 + k))) : ∀ k, k < n + 1 → vW (addS S n cl (1 + k)) := by
  intro k hk
  unfold addS upd
  rw [if_neg (by omega)]
  split
  · exact hv
  · exact sv k (by omega)
theorem rx_add (d0 : Nat) {a b c d : Int32} (x : RI h S V er tx n sm tn) (hc : aOK a b c d) (hf : ¬ aCf a b c d) (hn : n < 16) : Mq mX9_addClause (d0 + 1) [.ref 43, .int a, .int b, .int c, .int d] h (qR h (addS S n (R4 a b c d)) (svV sm V S) er tx (n + 1) (min sm 4 + 1) tn (.int (nI n))) := by
  have x0 := x
  obtain ⟨ic, nm, rm, hf', ht, rt, mm, il, sp, rdm, k43, k44, s0, n16, sv, sm5, k46, k47, tl, k61, k45, vo⟩ := x.k43
  refine add_160 d0 hc (wl := true) ⟨fun _ => hf, fun _ => rfl⟩ ?_
  refine Rq_iload dX9_addClause_160 rfl ?_
  refine Rq_if_ne_t 172 dX9_addClause_162 (by decide) (by decide) ?_
  refine Rq_aload_n dX9_addClause_172 rfl ?_
  refine Rq_get dX9_addClause_173 flX9_7 k43 rfl ?_
  refine Rq_iconst (0) dX9_addClause_176 (by decide) ?_
  refine Rq_iald 0 dX9_addClause_177 k44 (by decide) (by decide) rfl ?_
  refine Rq_bipush (16) dX9_addClause_178 (by decide) ?_
  refine Rq_icmp_ne_t 190 dX9_addClause_180 (by decide) (by rw [s0]; exact fun z => absurd ((nI_eq (b := 16) (by omega) (by decide)).mp z) (by omega)) ?_
  refine Rq_aload_n dX9_addClause_190 rfl ?_
  refine Rq_callVq [] dX9_addClause_191 clX9_94 rfl k43 (ri_save d0 x k43) rfl rfl rfl (fun rv h1 hq => ?_)
  obtain ⟨rfl, F, j44, j43, j45, jo⟩ := hq
  have i43 := hNs (e' := aI 39 (upd S (1 + n) (R4 a b c d))) (by decide : (44 : Nat) ≠ 43) j43
  have i44 := hS (aI 39 (upd S (1 + n) (R4 a b c d))) j44
  refine Rq_aload_n dX9_addClause_194 rfl ?_
  refine Rq_get dX9_addClause_195 flX9_7 j43 rfl ?_
  refine Rq_iconst (1) dX9_addClause_198 (by decide) ?_
  refine Rq_aload_n dX9_addClause_199 rfl ?_
  refine Rq_get dX9_addClause_200 flX9_7 j43 rfl ?_
  refine Rq_iconst (0) dX9_addClause_203 (by decide) ?_
  refine Rq_iald 0 dX9_addClause_204 j44 (by decide) (by decide) rfl ?_
  refine Rq_iadd dX9_addClause_205 ?_
  refine Rq_iload dX9_addClause_206 rfl ?_
  refine Rq_iast (1 + n) dX9_addClause_208 j44 (by omega) (by decide) (by rw [s0]; exact nI_add 1 n) ?_
  have e0 : upd S (1 + n) (R4 a b c d) 0 + 1 = nI (n + 1) := by
    unfold upd
    rw [if_neg (by omega), s0, nI_1]
  have F2 : Fr [43, 44, 45, 61] h (h1.set 44 (aI 39 (addS S n (R4 a b c d)))) := (F.mono (by decide)).trans (Fr.set (by decide))
  have l43 := hNs (e' := aI 39 (addS S n (R4 a b c d))) (by decide : (44 : Nat) ≠ 43) j43
  have l44 := hS (aI 39 (addS S n (R4 a b c d))) j44
  refine Rq_aload_n dX9_addClause_209 rfl ?_
  refine Rq_get dX9_addClause_210 flX9_7 i43 rfl ?_
  refine Rq_iconst (0) dX9_addClause_213 (by decide) ?_
  refine Rq_dup2 dX9_addClause_214 rfl rfl ?_
  refine Rq_iald 0 dX9_addClause_215 i44 (by decide) (by decide) rfl ?_
  refine Rq_iconst (1) dX9_addClause_216 (by decide) ?_
  refine Rq_iadd dX9_addClause_217 ?_
  refine Rq_iast 0 dX9_addClause_218 i44 (by decide) (by decide) rfl ?_
  rw [e0, List.set_set]
  show Rq _ _ _ _ _ (h1.set 44 (aI 39 (addS S n (R4 a b c d)))) _
  refine Rq_aload_n dX9_addClause_219 rfl ?_
  refine Rq_get dX9_addClause_220 flX9_7 l43 rfl ?_
  refine Rq_iconst (0) dX9_addClause_223 (by decide) ?_
  refine Rq_iald 0 dX9_addClause_224 l44 (by decide) (by decide) rfl ?_
  refine Rq_iconst (1) dX9_addClause_225 (by decide) ?_
  refine Rq_isub dX9_addClause_226 ?_
  refine Rq_iret dX9_addClause_227 rfl ?_
  obtain ⟨rc, k61⟩ := k61
  have y := x0.chg F2 l43 l44 rfl (by omega) (addS_ok (R4_w hc) sv) (hNs (by decide) j45) (by omega) jo ⟨rc, hNs (by decide) (F.at (by decide) k61)⟩
  exact ⟨by rw [show addS S n (R4 a b c d) 0 = nI (n + 1) from rfl, nI_pred], y.1, y.2⟩
end RF
