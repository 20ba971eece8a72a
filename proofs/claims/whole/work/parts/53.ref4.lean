/-! the reference: explanations -/
def bcd (c : Nat) : Int32 := rBit (fLit (nI c))
def rEx (S : Nat → Int32) (n : Nat) (lit bits : Int32) : Bool := decide (0 < rBy S n bits) && decide (rBy S n (bits ||| rBit lit) = rBy S n bits)
def rMay (S : Nat → Int32) (lit : Int32) (c : Nat) (w : Int32) : Bool := decide (rVars (bcd c) &&& (rVars w ||| (S 17 ||| S 18) ||| rVars (rBit lit)) = 0)
def rX3 (S : Nat → Int32) (n : Nat) (lit : Int32) (a b : Nat) (two : Int32) (c : Nat) : Option (List Nat) := if rMay S lit c two && rEx S n lit (two ||| bcd c) then some [a, b, c] else none
def rX2 (S : Nat → Int32) (n : Nat) (lit : Int32) (many a b : Nat) : Option (List Nat) :=
  if rMay S lit b (bcd a) then (if many = 2 then (if rEx S n lit (bcd a ||| bcd b) then some [a, b] else none) else (List.range' (b + 1) (21 - b)).findSome? (rX3 S n lit a b (bcd a ||| bcd b))) else none
def rFrom (S : Nat → Int32) (n : Nat) (lit : Int32) (many a : Nat) : Option (List Nat) := (List.range' (a + 1) (21 - a)).findSome? (rX2 S n lit many a)
def rX1 (S : Nat → Int32) (n : Nat) (lit : Int32) (many a : Nat) : Option (List Nat) :=
  if rMay S lit a 0 then (if many = 1 then (if rEx S n lit (bcd a) then some [a] else none) else rFrom S n lit many a) else none
def rXm (S : Nat → Int32) (n : Nat) (lit : Int32) (many : Nat) : Option (List Nat) := (List.range' 2 20).findSome? (rX1 S n lit many)
def rXpl (S : Nat → Int32) (n : Nat) (lit : Int32) : Option (List Nat) := if rEx S n lit 0 then some [] else (rXm S n lit 1).or ((rXm S n lit 2).or (rXm S n lit 3))
/-- the number that stands for an explanation -/
def xEnc (o : Option (List Nat)) : Int32 := match o with
  | none => -1
  | some [] => 0
  | some [a] => 100000 + nI a
  | some [a, b] => 200000 + 32 * nI b + nI a
  | some (a :: b :: c :: _) => 300000 + 1024 * nI c + 32 * nI b + nI a
theorem fs_or {α : Type} (f : Nat → Option α) (a : Nat) (l : List Nat) : (a :: l).findSome? f = (f a).or (l.findSome? f) := by
  rw [List.findSome?_cons]
  cases f a <;> rfl
section RF
variable {h h0 : Hp} {sm ln ic nm rm hf ht rt sp rdm : Int32} {S : Nat → Int32} {n : Nat}
/-- the cells, the list of models made or not -/
def RMs (sm ln ic nm rm hf ht rt sp rdm : Int32) (S : Nat → Int32) (n : Nat) (h0 h : Hp) : Prop := Fr [43, 60] h0 h ∧ h[44]? = some (aI 39 S) ∧ ∃ mm il, h[43]? = some (obM sm ln ic nm rm hf ht rt mm il sp rdm) ∧ RM h S n mm il
theorem RMs.by (x : RMs sm ln ic nm rm hf ht rt sp rdm S n h0 h) (hn : S 0 = nI n) (hn16 : n ≤ 16) (d : Nat) (bits : Int32) : Mq mX9_modelsBy (d + 2) [.ref 43, .int bits] h (fun r h' => r = some (.int (nI (rBy S n bits))) ∧ RMs sm ln ic nm rm hf ht rt sp rdm S n h0 h') := by
  obtain ⟨F, h1, mm, il, h2, h3⟩ := x
  refine Mq.mono (rp_modelsBy d bits h2 h1 hn hn16 h3) ?_
  rintro r h' ⟨rfl, F', mm', il', k0, k1⟩
  exact ⟨rfl, F.trans F', F'.at (by decide) h1, mm', il', k0, k1⟩
theorem rp_explains (d : Nat) (lit bits : Int32) (hn : S 0 = nI n) (hn16 : n ≤ 16) (x : RMs sm ln ic nm rm hf ht rt sp rdm S n h0 h) : Mq mX9_explains (d + 3) [.ref 43, .int bits, .int lit] h (fun r h' => r = some (.int (b2i (rEx S n lit bits))) ∧ RMs sm ln ic nm rm hf ht rt sp rdm S n h0 h') := by
  obtain ⟨-, -, mm, il, k0, -⟩ := id x
  have l1 : rBy S n bits ≤ 1024 := fb_ct_le _ _
  have l2 : rBy S n (bits ||| rBit lit) ≤ 1024 := fb_ct_le _ _
  refine Mq_of [_, _, _, _] (by decide +kernel) rfl rfl ?_
  refine Rq_aload_n dX9_explains_0 rfl ?_
  refine Rq_iload_n dX9_explains_1 rfl ?_
  refine Rq_callVq [_] dX9_explains_2 clX9_179 rfl k0 (x.by hn hn16 d bits) rfl rfl rfl (fun rv h1 hq => ?_)
  obtain ⟨rfl, x1⟩ := hq
  obtain ⟨-, -, mm1, il1, k1, -⟩ := id x1
  unfold rEx
  by_cases c : 0 < rBy S n bits
  · rw [decide_eq_true c, Bool.true_and]
    refine Rq_istore_n [_, _, _, _] dX9_explains_5 rfl rfl rfl ?_
    refine Rq_iload_n dX9_explains_6 rfl ?_
    refine Rq_if_le_f 28 dX9_explains_7 (by decide) (nI_nle c (by omega)) ?_
    refine Rq_aload_n dX9_explains_10 rfl ?_
    refine Rq_iload_n dX9_explains_11 rfl ?_
    refine Rq_iload_n dX9_explains_12 rfl ?_
    refine Rq_callS [_] dX9_explains_13 clX9_88 (rp_bitOf (d + 2) _ lit) rfl rfl rfl ?_
    refine Rq_ior dX9_explains_16 ?_
    refine Rq_callVq [_] dX9_explains_17 clX9_179 rfl k1 (x1.by hn hn16 d _) rfl rfl rfl (fun rv h2 hq => ?_)
    obtain ⟨rfl, x2⟩ := hq
    by_cases c2 : rBy S n (bits ||| rBit lit) = rBy S n bits
    · rw [decide_eq_true c2]
      refine Rq_iload_n dX9_explains_20 rfl ?_
      refine Rq_icmp_ne_f 28 dX9_explains_21 (by decide) (by rw [c2]) ?_
      refine Rq_iconst (1) dX9_explains_24 (by decide) ?_
      refine Rq_goto 29 dX9_explains_25 (by decide) ?_
      refine Rq_zret dX9_explains_29 rfl (by decide) ?_
      exact ⟨rfl, x2⟩
    · rw [decide_eq_false c2]
      refine Rq_iload_n dX9_explains_20 rfl ?_
      refine Rq_icmp_ne_t 28 dX9_explains_21 (by decide) (fun z => c2 ((nI_eq (by omega) (by omega)).mp z)) ?_
      refine Rq_iconst (0) dX9_explains_28 (by decide) ?_
      refine Rq_zret dX9_explains_29 rfl (by decide) ?_
      exact ⟨rfl, x2⟩
  · rw [decide_eq_false c, Bool.false_and]
    refine Rq_istore_n [_, _, _, _] dX9_explains_5 rfl rfl rfl ?_
    refine Rq_iload_n dX9_explains_6 rfl ?_
    refine Rq_if_le_t 28 dX9_explains_7 (by decide) (nI_le (b := 0) (by omega) (by omega)) ?_
    refine Rq_iconst (0) dX9_explains_28 (by decide) ?_
    refine Rq_zret dX9_explains_29 rfl (by decide) ?_
    exact ⟨rfl, x1⟩
theorem rp_mayBe (d : Nat) {c : Nat} (w lit : Int32) (hc : c < 22) (x : RMs sm ln ic nm rm hf ht rt sp rdm S n h0 h) : Mx mX9_mayBe (d + 1) [.ref 43, .int (nI c), .int w, .int lit] h (some (.int (b2i (rMay S lit c w)))) h := by
  obtain ⟨-, h1, mm, il, k0, -⟩ := x
  refine Mx_of [_, _, _, _, _] (by decide +kernel) rfl rfl ?_
  unfold rMay
  by_cases z : rVars (bcd c) &&& (rVars w ||| (S 17 ||| S 18) ||| rVars (rBit lit)) = 0
  · rw [decide_eq_true z]
    refine Rx_iload_n dX9_mayBe_0 rfl ?_
    refine Rx_callS [_] dX9_mayBe_1 clX9_192 (rp_litBy d h (by omega)) rfl rfl rfl ?_
    refine Rx_callS [_] dX9_mayBe_4 clX9_88 (rp_bitOf d h _) rfl rfl rfl ?_
    refine Rx_callS [_] dX9_mayBe_7 clX9_91 (rp_vars d h _) rfl rfl rfl ?_
    refine Rx_istore [_, _, _, _, _] dX9_mayBe_10 rfl rfl rfl ?_
    refine Rx_iload dX9_mayBe_12 rfl ?_
    refine Rx_iload_n dX9_mayBe_14 rfl ?_
    refine Rx_callS [_] dX9_mayBe_15 clX9_91 (rp_vars d h _) rfl rfl rfl ?_
    refine Rx_aload_n dX9_mayBe_18 rfl ?_
    refine Rx_callV [] dX9_mayBe_19 clX9_107 rfl k0 (rp_assumed d k0 h1) rfl rfl rfl ?_
    refine Rx_ior dX9_mayBe_22 ?_
    refine Rx_iload_n dX9_mayBe_23 rfl ?_
    refine Rx_callS [_] dX9_mayBe_24 clX9_88 (rp_bitOf d h _) rfl rfl rfl ?_
    refine Rx_callS [_] dX9_mayBe_27 clX9_91 (rp_vars d h _) rfl rfl rfl ?_
    refine Rx_ior dX9_mayBe_30 ?_
    refine Rx_iand dX9_mayBe_31 ?_
    refine Rx_if_ne_f 39 dX9_mayBe_32 (by decide) z ?_
    refine Rx_iconst (1) dX9_mayBe_35 (by decide) ?_
    refine Rx_goto 40 dX9_mayBe_36 (by decide) ?_
    exact Rx_zret dX9_mayBe_40 rfl (by decide)
  · rw [decide_eq_false z]
    refine Rx_iload_n dX9_mayBe_0 rfl ?_
    refine Rx_callS [_] dX9_mayBe_1 clX9_192 (rp_litBy d h (by omega)) rfl rfl rfl ?_
    refine Rx_callS [_] dX9_mayBe_4 clX9_88 (rp_bitOf d h _) rfl rfl rfl ?_
    refine Rx_callS [_] dX9_mayBe_7 clX9_91 (rp_vars d h _) rfl rfl rfl ?_
    refine Rx_istore [_, _, _, _, _] dX9_mayBe_10 rfl rfl rfl ?_
    refine Rx_iload dX9_mayBe_12 rfl ?_
    refine Rx_iload_n dX9_mayBe_14 rfl ?_
    refine Rx_callS [_] dX9_mayBe_15 clX9_91 (rp_vars d h _) rfl rfl rfl ?_
    refine Rx_aload_n dX9_mayBe_18 rfl ?_
    refine Rx_callV [] dX9_mayBe_19 clX9_107 rfl k0 (rp_assumed d k0 h1) rfl rfl rfl ?_
    refine Rx_ior dX9_mayBe_22 ?_
    refine Rx_iload_n dX9_mayBe_23 rfl ?_
    refine Rx_callS [_] dX9_mayBe_24 clX9_88 (rp_bitOf d h _) rfl rfl rfl ?_
    refine Rx_callS [_] dX9_mayBe_27 clX9_91 (rp_vars d h _) rfl rfl rfl ?_
    refine Rx_ior dX9_mayBe_30 ?_
    refine Rx_iand dX9_mayBe_31 ?_
    refine Rx_if_ne_t 39 dX9_mayBe_32 (by decide) z ?_
    refine Rx_iconst (0) dX9_mayBe_39 (by decide) ?_
    exact Rx_zret dX9_mayBe_40 rfl (by decide)
theorem enc2 {a b : Nat} (ha : a < 22) (hb : b < 22) : 0 ≤ (200000 : Int32) + 32 * nI b + nI a := by
  have : ∀ b : Nat, b < 22 → ∀ a : Nat, a < 22 → 0 ≤ (200000 : Int32) + 32 * nI b + nI a := by decide +kernel
  exact this b hb a ha
theorem rp_xFrom (d : Nat) (lit : Int32) (hn : S 0 = nI n) (hn16 : n ≤ 16) {many a : Nat} (hm : many = 2 ∨ many = 3) (ha : 2 ≤ a) (ha2 : a < 22) (x : RMs sm ln ic nm rm hf ht rt sp rdm S n h0 h) : Mq mX9_explainedFrom (d + 4) [.ref 43, .int (nI many), .int (nI a), .int (bcd a), .int lit] h (fun r h' => r = some (.int (xEnc (rFrom S n lit many a))) ∧ RMs sm ln ic nm rm hf ht rt sp rdm S n h0 h') := by
  have loop : ∀ (j b : Nat) (h : Hp), b + j = 22 → a < b → RMs sm ln ic nm rm hf ht rt sp rdm S n h0 h → Rq mX9_explainedFrom (d + 4) 5 [.ref 43, .int (nI many), .int (nI a), .int (bcd a), .int lit, .int (nI b), .retAddr 0, .retAddr 0] [] h (fun r h' => r = some (.int (xEnc ((List.range' b j).findSome? (rX2 S n lit many a)))) ∧ RMs sm ln ic nm rm hf ht rt sp rdm S n h0 h') := by
    intro j
    induction j with
    | zero =>
      intro b h hb hab x
      have e : b = 22 := by omega
      subst e
      refine Rq_iload dX9_explainedFrom_5 rfl ?_
      refine Rq_bipush (22) dX9_explainedFrom_7 (by decide) ?_
      refine Rq_icmp_ge_t 144 dX9_explainedFrom_9 (by decide) (nI_le (a := 22) (b := 22) (Nat.le_refl _) (by decide)) ?_
      refine Rq_iconst (-1) dX9_explainedFrom_144 (by decide) ?_
      refine Rq_iret dX9_explainedFrom_145 rfl ?_
      exact ⟨rfl, x⟩
    | succ j ih =>
      intro b h hb hab x
      obtain ⟨-, -, mm, il, k0, -⟩ := id x
      have my := rp_mayBe (d + 2) (c := b) (bcd a) lit (by omega) x
      rw [List.range'_succ, fs_or]
      cases c1 : rMay S lit b (bcd a) with
      | false =>
        rw [c1] at my
        have e : rX2 S n lit many a b = none := by unfold rX2; rw [c1]; rfl
        rw [e]
        refine Rq_iload dX9_explainedFrom_5 rfl ?_
        refine Rq_bipush (22) dX9_explainedFrom_7 (by decide) ?_
        refine Rq_icmp_ge_f 144 dX9_explainedFrom_9 (by decide) (nI_ge (a := b) (b := 22) (by omega) (by decide)) ?_
        refine Rq_aload_n dX9_explainedFrom_12 rfl ?_
        refine Rq_iload dX9_explainedFrom_13 rfl ?_
        refine Rq_iload_n dX9_explainedFrom_15 rfl ?_
        refine Rq_iload dX9_explainedFrom_16 rfl ?_
        refine Rq_callV [_, _, _] dX9_explainedFrom_18 clX9_199 rfl k0 my rfl rfl rfl ?_
        refine Rq_if_eq_t 138 dX9_explainedFrom_21 (by decide) rfl ?_
        refine Rq_iinc [_, _, _, _, _, _, _, _] (1) dX9_explainedFrom_138 rfl (by decide) rfl rfl rfl ?_
        refine Rq_goto 5 dX9_explainedFrom_141 (by decide) ?_
        rw [nI_1]
        exact ih (b + 1) h (by omega) (by omega) x
      | true =>
        rw [c1] at my
        rcases hm with rfl | rfl
        · refine Rq_iload dX9_explainedFrom_5 rfl ?_
          refine Rq_bipush (22) dX9_explainedFrom_7 (by decide) ?_
          refine Rq_icmp_ge_f 144 dX9_explainedFrom_9 (by decide) (nI_ge (a := b) (b := 22) (by omega) (by decide)) ?_
          refine Rq_aload_n dX9_explainedFrom_12 rfl ?_
          refine Rq_iload dX9_explainedFrom_13 rfl ?_
          refine Rq_iload_n dX9_explainedFrom_15 rfl ?_
          refine Rq_iload dX9_explainedFrom_16 rfl ?_
          refine Rq_callV [_, _, _] dX9_explainedFrom_18 clX9_199 rfl k0 my rfl rfl rfl ?_
          refine Rq_if_eq_f 138 dX9_explainedFrom_21 (by decide) (by decide) ?_
          refine Rq_iload_n dX9_explainedFrom_24 rfl ?_
          refine Rq_iload dX9_explainedFrom_25 rfl ?_
          refine Rq_callS [_] dX9_explainedFrom_27 clX9_192 (rp_litBy (d + 3) h (by omega)) rfl rfl rfl ?_
          refine Rq_callS [_] dX9_explainedFrom_30 clX9_88 (rp_bitOf (d + 3) h _) rfl rfl rfl ?_
          refine Rq_ior dX9_explainedFrom_33 ?_
          refine Rq_istore [_, _, _, _, _, _, _, _] dX9_explainedFrom_34 rfl rfl rfl ?_
          refine Rq_iload_n dX9_explainedFrom_36 rfl ?_
          refine Rq_iconst (2) dX9_explainedFrom_37 (by decide) ?_
          refine Rq_icmp_ne_f 63 dX9_explainedFrom_38 (by decide) rfl ?_
          refine Rq_aload_n dX9_explainedFrom_41 rfl ?_
          refine Rq_iload dX9_explainedFrom_42 rfl ?_
          refine Rq_iload dX9_explainedFrom_44 rfl ?_
          refine Rq_callVq [_, _] dX9_explainedFrom_46 clX9_195 rfl k0 (rp_explains d lit _ hn hn16 x) rfl rfl rfl (fun rv h2 hq => ?_)
          obtain ⟨rfl, x2⟩ := hq
          cases c2 : rEx S n lit (bcd a ||| bcd b) with
          | true =>
            have e : rX2 S n lit 2 a b = some [a, b] := by unfold rX2; rw [c1, c2]; rfl
            rw [e]
            refine Rq_if_eq_f 63 dX9_explainedFrom_49 (by decide) (by rw [show rEx S n lit (bcd a ||| rBit (fLit (nI b))) = true from c2]; decide) ?_
            refine Rq_ldc dX9_explainedFrom_52 kcX9_208 ?_
            refine Rq_bipush (32) dX9_explainedFrom_54 (by decide) ?_
            refine Rq_iload dX9_explainedFrom_56 rfl ?_
            refine Rq_imul dX9_explainedFrom_58 ?_
            refine Rq_iadd dX9_explainedFrom_59 ?_
            refine Rq_iload_n dX9_explainedFrom_60 rfl ?_
            refine Rq_iadd dX9_explainedFrom_61 ?_
            refine Rq_iret dX9_explainedFrom_62 rfl ?_
            exact ⟨rfl, x2⟩
          | false =>
            have e : rX2 S n lit 2 a b = none := by unfold rX2; rw [c1, c2]; rfl
            rw [e]
            by_cases cb : b + 1 = 22
            · refine Rq_if_eq_t 63 dX9_explainedFrom_49 (by decide) (by rw [show rEx S n lit (bcd a ||| rBit (fLit (nI b))) = false from c2]; rfl) ?_
              refine Rq_iload dX9_explainedFrom_63 rfl ?_
              refine Rq_iconst (1) dX9_explainedFrom_65 (by decide) ?_
              refine Rq_iadd dX9_explainedFrom_66 ?_
              refine Rq_istore [_, _, _, _, _, _, _, _] dX9_explainedFrom_67 rfl rfl rfl ?_
              refine Rq_iload dX9_explainedFrom_69 rfl ?_
              refine Rq_bipush (22) dX9_explainedFrom_71 (by decide) ?_
              refine Rq_icmp_ge_t 138 dX9_explainedFrom_73 (by decide) (by rw [nI_1, cb]; exact nI_le (a := 22) (b := 22) (Nat.le_refl _) (by decide)) ?_
              refine Rq_iinc [_, _, _, _, _, _, _, _] (1) dX9_explainedFrom_138 rfl (by decide) rfl rfl rfl ?_
              refine Rq_goto 5 dX9_explainedFrom_141 (by decide) ?_
              refine Rq_dead [_, _, _, _, _, _, .retAddr 0, .retAddr 0] ⟨Or.inr rfl, Or.inr rfl, Or.inr rfl, Or.inr rfl, Or.inr rfl, Or.inr rfl, Or.inl rfl, Or.inl rfl, trivial⟩ ?_
              rw [nI_1]
              exact ih (b + 1) h2 (by omega) (by omega) x2
            · refine Rq_if_eq_t 63 dX9_explainedFrom_49 (by decide) (by rw [show rEx S n lit (bcd a ||| rBit (fLit (nI b))) = false from c2]; rfl) ?_
              refine Rq_iload dX9_explainedFrom_63 rfl ?_
              refine Rq_iconst (1) dX9_explainedFrom_65 (by decide) ?_
              refine Rq_iadd dX9_explainedFrom_66 ?_
              refine Rq_istore [_, _, _, _, _, _, _, _] dX9_explainedFrom_67 rfl rfl rfl ?_
              refine Rq_iload dX9_explainedFrom_69 rfl ?_
              refine Rq_bipush (22) dX9_explainedFrom_71 (by decide) ?_
              refine Rq_icmp_ge_f 138 dX9_explainedFrom_73 (by decide) (by rw [nI_1]; exact nI_ge (a := b + 1) (b := 22) (by omega) (by decide)) ?_
              refine Rq_iload_n dX9_explainedFrom_76 rfl ?_
              refine Rq_iconst (3) dX9_explainedFrom_77 (by decide) ?_
              refine Rq_icmp_ne_t 138 dX9_explainedFrom_78 (by decide) (by decide) ?_
              refine Rq_iinc [_, _, _, _, _, _, _, _] (1) dX9_explainedFrom_138 rfl (by decide) rfl rfl rfl ?_
              refine Rq_goto 5 dX9_explainedFrom_141 (by decide) ?_
              refine Rq_dead [_, _, _, _, _, _, .retAddr 0, .retAddr 0] ⟨Or.inr rfl, Or.inr rfl, Or.inr rfl, Or.inr rfl, Or.inr rfl, Or.inr rfl, Or.inl rfl, Or.inl rfl, trivial⟩ ?_
              rw [nI_1]
              exact ih (b + 1) h2 (by omega) (by omega) x2
        · refine Rq_iload dX9_explainedFrom_5 rfl ?_
          refine Rq_bipush (22) dX9_explainedFrom_7 (by decide) ?_
          refine Rq_icmp_ge_f 144 dX9_explainedFrom_9 (by decide) (nI_ge (a := b) (b := 22) (by omega) (by decide)) ?_
          refine Rq_aload_n dX9_explainedFrom_12 rfl ?_
          refine Rq_iload dX9_explainedFrom_13 rfl ?_
          refine Rq_iload_n dX9_explainedFrom_15 rfl ?_
          refine Rq_iload dX9_explainedFrom_16 rfl ?_
          refine Rq_callV [_, _, _] dX9_explainedFrom_18 clX9_199 rfl k0 my rfl rfl rfl ?_
          refine Rq_if_eq_f 138 dX9_explainedFrom_21 (by decide) (by decide) ?_
          refine Rq_iload_n dX9_explainedFrom_24 rfl ?_
          refine Rq_iload dX9_explainedFrom_25 rfl ?_
          refine Rq_callS [_] dX9_explainedFrom_27 clX9_192 (rp_litBy (d + 3) h (by omega)) rfl rfl rfl ?_
          refine Rq_callS [_] dX9_explainedFrom_30 clX9_88 (rp_bitOf (d + 3) h _) rfl rfl rfl ?_
          refine Rq_ior dX9_explainedFrom_33 ?_
          refine Rq_istore [_, _, _, _, _, _, _, _] dX9_explainedFrom_34 rfl rfl rfl ?_
          refine Rq_iload_n dX9_explainedFrom_36 rfl ?_
          refine Rq_iconst (2) dX9_explainedFrom_37 (by decide) ?_
          refine Rq_icmp_ne_t 63 dX9_explainedFrom_38 (by decide) (by decide) ?_
          have inner : ∀ (i c : Nat) (h : Hp), c + i = 22 → b < c → RMs sm ln ic nm rm hf ht rt sp rdm S n h0 h → (∀ h', RMs sm ln ic nm rm hf ht rt sp rdm S n h0 h' → (List.range' c i).findSome? (rX3 S n lit a b (bcd a ||| bcd b)) = none → Rq mX9_explainedFrom (d + 4) 138 [.ref 43, .int (nI 3), .int (nI a), .int (bcd a), .int lit, .int (nI b), .retAddr 0, .retAddr 0] [] h' (fun r h' => r = some (.int (xEnc ((rX2 S n lit 3 a b).or ((List.range' (b + 1) j).findSome? (rX2 S n lit 3 a))))) ∧ RMs sm ln ic nm rm hf ht rt sp rdm S n h0 h')) → rX2 S n lit 3 a b = (List.range' c i).findSome? (rX3 S n lit a b (bcd a ||| bcd b)) → Rq mX9_explainedFrom (d + 4) 69 [.ref 43, .int (nI 3), .int (nI a), .int (bcd a), .int lit, .int (nI b), .int (bcd a ||| bcd b), .int (nI c)] [] h (fun r h' => r = some (.int (xEnc ((rX2 S n lit 3 a b).or ((List.range' (b + 1) j).findSome? (rX2 S n lit 3 a))))) ∧ RMs sm ln ic nm rm hf ht rt sp rdm S n h0 h') := by
            intro i
            induction i with
            | zero =>
              intro c h hc hbc x K E
              have e : c = 22 := by omega
              subst e
              refine Rq_iload dX9_explainedFrom_69 rfl ?_
              refine Rq_bipush (22) dX9_explainedFrom_71 (by decide) ?_
              refine Rq_icmp_ge_t 138 dX9_explainedFrom_73 (by decide) (nI_le (a := 22) (b := 22) (Nat.le_refl _) (by decide)) ?_
              refine Rq_dead [_, _, _, _, _, _, .retAddr 0, .retAddr 0] ⟨Or.inr rfl, Or.inr rfl, Or.inr rfl, Or.inr rfl, Or.inr rfl, Or.inr rfl, Or.inl rfl, Or.inl rfl, trivial⟩ ?_
              exact K h x rfl
            | succ i ih2 =>
              intro c h hc hbc x K E
              obtain ⟨-, -, mm, il, k0, -⟩ := id x
              have my := rp_mayBe (d + 2) (c := c) (bcd a ||| bcd b) lit (by omega) x
              rw [List.range'_succ, fs_or] at K E
              cases c3 : rMay S lit c (bcd a ||| bcd b) with
              | false =>
                rw [c3] at my
                have e : rX3 S n lit a b (bcd a ||| bcd b) c = none := by unfold rX3; rw [c3]; rfl
                rw [e] at K E
                refine Rq_iload dX9_explainedFrom_69 rfl ?_
                refine Rq_bipush (22) dX9_explainedFrom_71 (by decide) ?_
                refine Rq_icmp_ge_f 138 dX9_explainedFrom_73 (by decide) (nI_ge (a := c) (b := 22) (by omega) (by decide)) ?_
                refine Rq_iload_n dX9_explainedFrom_76 rfl ?_
                refine Rq_iconst (3) dX9_explainedFrom_77 (by decide) ?_
                refine Rq_icmp_ne_f 138 dX9_explainedFrom_78 (by decide) rfl ?_
                refine Rq_aload_n dX9_explainedFrom_81 rfl ?_
                refine Rq_iload dX9_explainedFrom_82 rfl ?_
                refine Rq_iload dX9_explainedFrom_84 rfl ?_
                refine Rq_iload dX9_explainedFrom_86 rfl ?_
                refine Rq_callV [_, _, _] dX9_explainedFrom_88 clX9_199 rfl k0 my rfl rfl rfl ?_
                refine Rq_if_eq_t 132 dX9_explainedFrom_91 (by decide) rfl ?_
                refine Rq_iinc [_, _, _, _, _, _, _, _] (1) dX9_explainedFrom_132 rfl (by decide) rfl rfl rfl ?_
                refine Rq_goto 69 dX9_explainedFrom_135 (by decide) ?_
                rw [nI_1]
                exact ih2 (c + 1) h (by omega) (by omega) x K E
              | true =>
                rw [c3] at my
                refine Rq_iload dX9_explainedFrom_69 rfl ?_
                refine Rq_bipush (22) dX9_explainedFrom_71 (by decide) ?_
                refine Rq_icmp_ge_f 138 dX9_explainedFrom_73 (by decide) (nI_ge (a := c) (b := 22) (by omega) (by decide)) ?_
                refine Rq_iload_n dX9_explainedFrom_76 rfl ?_
                refine Rq_iconst (3) dX9_explainedFrom_77 (by decide) ?_
                refine Rq_icmp_ne_f 138 dX9_explainedFrom_78 (by decide) rfl ?_
                refine Rq_aload_n dX9_explainedFrom_81 rfl ?_
                refine Rq_iload dX9_explainedFrom_82 rfl ?_
                refine Rq_iload dX9_explainedFrom_84 rfl ?_
                refine Rq_iload dX9_explainedFrom_86 rfl ?_
                refine Rq_callV [_, _, _] dX9_explainedFrom_88 clX9_199 rfl k0 my rfl rfl rfl ?_
                refine Rq_if_eq_f 132 dX9_explainedFrom_91 (by decide) (by decide) ?_
                refine Rq_aload_n dX9_explainedFrom_94 rfl ?_
                refine Rq_iload dX9_explainedFrom_95 rfl ?_
                refine Rq_iload dX9_explainedFrom_97 rfl ?_
                refine Rq_callS [_] dX9_explainedFrom_99 clX9_192 (rp_litBy (d + 3) h (by omega)) rfl rfl rfl ?_
                refine Rq_callS [_] dX9_explainedFrom_102 clX9_88 (rp_bitOf (d + 3) h _) rfl rfl rfl ?_
                refine Rq_ior dX9_explainedFrom_105 ?_
                refine Rq_iload dX9_explainedFrom_106 rfl ?_
                refine Rq_callVq [_, _] dX9_explainedFrom_108 clX9_195 rfl k0 (rp_explains d lit _ hn hn16 x) rfl rfl rfl (fun rv h2 hq => ?_)
                obtain ⟨rfl, x2⟩ := hq
                cases c4 : rEx S n lit (bcd a ||| bcd b ||| bcd c) with
                | true =>
                  have e : rX3 S n lit a b (bcd a ||| bcd b) c = some [a, b, c] := by unfold rX3; rw [c3, c4]; rfl
                  rw [e] at E
                  simp only [Option.or] at E
                  rw [E]
                  refine Rq_if_eq_f 132 dX9_explainedFrom_111 (by decide) (by rw [show rEx S n lit (bcd a ||| bcd b ||| rBit (fLit (nI c))) = true from c4]; decide) ?_
                  refine Rq_ldc dX9_explainedFrom_114 kcX9_209 ?_
                  refine Rq_sipush (1024) dX9_explainedFrom_116 (by decide) ?_
                  refine Rq_iload dX9_explainedFrom_119 rfl ?_
                  refine Rq_imul dX9_explainedFrom_121 ?_
                  refine Rq_iadd dX9_explainedFrom_122 ?_
                  refine Rq_bipush (32) dX9_explainedFrom_123 (by decide) ?_
                  refine Rq_iload dX9_explainedFrom_125 rfl ?_
                  refine Rq_imul dX9_explainedFrom_127 ?_
                  refine Rq_iadd dX9_explainedFrom_128 ?_
                  refine Rq_iload_n dX9_explainedFrom_129 rfl ?_
                  refine Rq_iadd dX9_explainedFrom_130 ?_
                  refine Rq_iret dX9_explainedFrom_131 rfl ?_
                  exact ⟨rfl, x2⟩
                | false =>
                  have e : rX3 S n lit a b (bcd a ||| bcd b) c = none := by unfold rX3; rw [c3, c4]; rfl
                  rw [e] at K E
                  refine Rq_if_eq_t 132 dX9_explainedFrom_111 (by decide) (by rw [show rEx S n lit (bcd a ||| bcd b ||| rBit (fLit (nI c))) = false from c4]; rfl) ?_
                  refine Rq_iinc [_, _, _, _, _, _, _, _] (1) dX9_explainedFrom_132 rfl (by decide) rfl rfl rfl ?_
                  refine Rq_goto 69 dX9_explainedFrom_135 (by decide) ?_
                  rw [nI_1]
                  exact ih2 (c + 1) h2 (by omega) (by omega) x2 K E
          refine Rq_iload dX9_explainedFrom_63 rfl ?_
          refine Rq_iconst (1) dX9_explainedFrom_65 (by decide) ?_
          refine Rq_iadd dX9_explainedFrom_66 ?_
          refine Rq_istore [_, _, _, _, _, _, _, _] dX9_explainedFrom_67 rfl rfl rfl ?_
          rw [nI_1]
          have E : rX2 S n lit 3 a b = (List.range' (b + 1) (21 - b)).findSome? (rX3 S n lit a b (bcd a ||| bcd b)) := by unfold rX2; rw [c1]; rfl
          refine inner (21 - b) (b + 1) h (by omega) (by omega) x (fun h' x' N => ?_) E
          rw [← E] at N
          rw [N]
          refine Rq_iinc [_, _, _, _, _, _, _, _] (1) dX9_explainedFrom_138 rfl (by decide) rfl rfl rfl ?_
          refine Rq_goto 5 dX9_explainedFrom_141 (by decide) ?_
          rw [nI_1]
          exact ih (b + 1) h' (by omega) (by omega) x'
  refine Mq_of [_, _, _, _, _, _, _, _] (by decide +kernel) rfl rfl ?_
  refine Rq_iload_n dX9_explainedFrom_0 rfl ?_
  refine Rq_iconst (1) dX9_explainedFrom_1 (by decide) ?_
  refine Rq_iadd dX9_explainedFrom_2 ?_
  refine Rq_istore [_, _, _, _, _, _, _, _] dX9_explainedFrom_3 rfl rfl rfl ?_
  rw [nI_1]
  have := loop (21 - a) (a + 1) h (by omega) (by omega) x
  exact this
end RF
