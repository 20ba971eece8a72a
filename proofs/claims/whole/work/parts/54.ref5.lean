/-! the reference: explained, explanation -/
def xN (l : List Nat) : Nat := match l with
  | [] => 0
  | [a] => 100000 + a
  | [a, b] => 200000 + 32 * b + a
  | a :: b :: c :: _ => 300000 + 1024 * c + 32 * b + a
theorem xEnc_N (l : List Nat) : xEnc (some l) = nI (xN l) := by
  match l with
  | [] => rfl
  | [a] => show (100000 : Int32) + nI a = nI (100000 + a); exact nI_add 100000 a
  | [a, b] => show nI 200000 + nI 32 * nI b + nI a = nI (200000 + 32 * b + a); rw [pk_mul, nI_add, nI_add]
  | a :: b :: c :: _ => show nI 300000 + nI 1024 * nI c + nI 32 * nI b + nI a = nI (300000 + 1024 * c + 32 * b + a); rw [pk_mul, pk_mul, nI_add, nI_add, nI_add]
/-- codes of literals, three at most -/
def xOK (o : Option (List Nat)) : Prop := ∀ l, o = some l → l.length ≤ 3 ∧ ∀ c ∈ l, 2 ≤ c ∧ c < 22
theorem xOK_none : xOK none := fun l h => by cases h
theorem xOK_fs {f : Nat → Option (List Nat)} {l : List Nat} (h : ∀ a ∈ l, xOK (f a)) : xOK (l.findSome? f) := by
  induction l with
  | nil => exact xOK_none
  | cons a l ih =>
    rw [fs_or]
    cases e : f a with
    | none => exact ih (fun b hb => h b (List.mem_cons_of_mem _ hb))
    | some y => have := h a List.mem_cons_self; rw [e] at this; exact this
theorem xOK_from (S : Nat → Int32) (n : Nat) (lit : Int32) (many : Nat) {a : Nat} (h1 : 2 ≤ a) (h2 : a < 22) : xOK (rFrom S n lit many a) := by
  refine xOK_fs (fun b hb => ?_)
  rw [List.mem_range'_1] at hb
  unfold rX2
  split
  · split
    · split
      · intro l e; cases e; simp; omega
      · exact xOK_none
    · refine xOK_fs (fun c hc => ?_)
      rw [List.mem_range'_1] at hc
      unfold rX3
      split
      · intro l e; cases e; simp; omega
      · exact xOK_none
  · exact xOK_none
theorem xOK_m (S : Nat → Int32) (n : Nat) (lit : Int32) (many : Nat) : xOK (rXm S n lit many) := by
  refine xOK_fs (fun a ha => ?_)
  rw [List.mem_range'_1] at ha
  unfold rX1
  split
  · split
    · split
      · intro l e; cases e; simp; omega
      · exact xOK_none
    · exact xOK_from S n lit many (by omega) (by omega)
  · exact xOK_none
theorem xOK_all (S : Nat → Int32) (n : Nat) (lit : Int32) : xOK (rXpl S n lit) := by
  unfold rXpl
  split
  · intro l e; cases e; simp
  · have h1 := xOK_m S n lit 1
    have h2 := xOK_m S n lit 2
    have h3 := xOK_m S n lit 3
    generalize rXm S n lit 1 = o1 at *
    generalize rXm S n lit 2 = o2 at *
    generalize rXm S n lit 3 = o3 at *
    cases o1 with
    | some y => exact h1
    | none => cases o2 with
      | some y => exact h2
      | none => exact h3
theorem xEnc_lt {o : Option (List Nat)} (h : xOK o) : (xEnc o < 0 ↔ o = none) := by
  cases o with
  | none => exact ⟨fun _ => rfl, fun _ => by decide⟩
  | some l =>
    refine ⟨fun z => ?_, fun z => by cases z⟩
    rw [xEnc_N] at z
    obtain ⟨h1, h2⟩ := h l rfl
    exfalso
    refine nI_pos (n := xN l) ?_ z
    match l, h1, h2 with
    | [], _, _ => decide
    | [a], _, h2 => simp at h2; simp only [xN]; omega
    | [a, b], _, h2 => simp at h2; simp only [xN]; omega
    | [a, b, c], _, h2 => simp at h2; simp only [xN]; omega
theorem xN_ok {l : List Nat} (h1 : l.length ≤ 3) (h2 : ∀ c ∈ l, 2 ≤ c ∧ c < 22) : xN l < 2 ^ 31 ∧ xN l / 100000 = l.length ∧ ∀ j, j < l.length → xN l % 100000 / 2 ^ (5 * j) % 32 = l.getD j 0 := by
  match l, h1, h2 with
  | [], _, _ => exact ⟨by decide, rfl, fun j hj => by simp at hj⟩
  | [a], _, h2 =>
    simp at h2
    refine ⟨by simp only [xN]; omega, by simp only [xN, List.length_singleton]; omega, fun j hj => ?_⟩
    have e : j = 0 := by simp at hj; omega
    subst e
    simp only [xN, List.getD_cons_zero, Nat.mul_zero, Nat.pow_zero]
    omega
  | [a, b], _, h2 =>
    simp at h2
    refine ⟨by simp only [xN]; omega, by simp only [xN, List.length_cons, List.length_nil]; omega, fun j hj => ?_⟩
    have e : j = 0 ∨ j = 1 := by simp at hj; omega
    rcases e with e | e <;> subst e
    · simp only [xN, List.getD_cons_zero, Nat.mul_zero, Nat.pow_zero]; omega
    · simp only [xN, List.getD_cons_succ, List.getD_cons_zero, Nat.reduceMul, Nat.reducePow]; omega
  | [a, b, c], _, h2 =>
    simp at h2
    refine ⟨by simp only [xN]; omega, by simp only [xN, List.length_cons, List.length_nil]; omega, fun j hj => ?_⟩
    have e : j = 0 ∨ j = 1 ∨ j = 2 := by simp at hj; omega
    have e3 : (300000 + 1024 * c + 32 * b + a) % 100000 = 1024 * c + 32 * b + a := by omega
    rcases e with e | e | e <;> subst e
    · simp only [xN, List.getD_cons_zero, Nat.mul_zero, Nat.pow_zero]; rw [e3]; omega
    · simp only [xN, List.getD_cons_succ, List.getD_cons_zero, Nat.reduceMul, Nat.reducePow]; rw [e3]; omega
    · simp only [xN, List.getD_cons_succ, List.getD_cons_zero, Nat.reduceMul, Nat.reducePow]; rw [e3]; omega
section RF
variable {h h0 : Hp} {sm ln ic nm rm hf ht rt sp rdm : Int32} {S : Nat → Int32} {n : Nat}
theorem rp_explained (d : Nat) (lit : Int32) (hn : S 0 = nI n) (hn16 : n ≤ 16) (x : RMs sm ln ic nm rm hf ht rt sp rdm S n h0 h) : Mq mX9_explained (d + 5) [.ref 43, .int lit] h (fun r h' => r = some (.int (xEnc (rXpl S n lit))) ∧ RMs sm ln ic nm rm hf ht rt sp rdm S n h0 h') := by
  have inner : ∀ (many : Nat) (Q : Option Value → Hp → Prop), (many = 1 ∨ many = 2 ∨ many = 3) → (∀ o h', (rXm S n lit many) = some o → RMs sm ln ic nm rm hf ht rt sp rdm S n h0 h' → Q (some (.int (xEnc (some o)))) h') →
      (∀ h', rXm S n lit many = none → RMs sm ln ic nm rm hf ht rt sp rdm S n h0 h' → Rq mX9_explained (d + 5) 99 [.ref 43, .int lit, .int (nI many), .retAddr 0, .retAddr 0, .retAddr 0] [] h' Q) →
      ∀ (j a : Nat) (h : Hp), a + j = 22 → 2 ≤ a → rXm S n lit many = (List.range' a j).findSome? (rX1 S n lit many) → RMs sm ln ic nm rm hf ht rt sp rdm S n h0 h → Rq mX9_explained (d + 5) 20 [.ref 43, .int lit, .int (nI many), .int (nI a), .retAddr 0, .retAddr 0] [] h Q := by
    intro many Q hm K1 K2 j
    induction j with
    | zero =>
      intro a h ha ha2 E x
      have e : a = 22 := by omega
      subst e
      refine Rq_iload_n dX9_explained_20 rfl ?_
      refine Rq_bipush (22) dX9_explained_21 (by decide) ?_
      refine Rq_icmp_ge_t 99 dX9_explained_23 (by decide) (nI_le (a := 22) (b := 22) (Nat.le_refl _) (by decide)) ?_
      refine Rq_dead [_, _, _, .retAddr 0, _, _] ⟨Or.inr rfl, Or.inr rfl, Or.inr rfl, Or.inl rfl, Or.inr rfl, Or.inr rfl, trivial⟩ ?_
      exact K2 h E x
    | succ j ih =>
      intro a h ha ha2 E x
      obtain ⟨-, -, mm, il, k0, -⟩ := id x
      have my := rp_mayBe (d + 3) (c := a) 0 lit (by omega) x
      rw [List.range'_succ, fs_or] at E
      cases c1 : rMay S lit a 0 with
      | false =>
        rw [c1] at my
        have e : rX1 S n lit many a = none := by unfold rX1; rw [c1]; rfl
        rw [e] at E
        refine Rq_iload_n dX9_explained_20 rfl ?_
        refine Rq_bipush (22) dX9_explained_21 (by decide) ?_
        refine Rq_icmp_ge_f 99 dX9_explained_23 (by decide) (nI_ge (a := a) (b := 22) (by omega) (by decide)) ?_
        refine Rq_iload_n dX9_explained_26 rfl ?_
        refine Rq_callS [_] dX9_explained_27 clX9_192 (rp_litBy (d + 4) h (by omega)) rfl rfl rfl ?_
        refine Rq_callS [_] dX9_explained_30 clX9_88 (rp_bitOf (d + 4) h _) rfl rfl rfl ?_
        refine Rq_istore [_, _, _, _, _, _] dX9_explained_33 rfl rfl rfl ?_
        refine Rq_aload_n dX9_explained_35 rfl ?_
        refine Rq_iload_n dX9_explained_36 rfl ?_
        refine Rq_iconst (0) dX9_explained_37 (by decide) ?_
        refine Rq_iload_n dX9_explained_38 rfl ?_
        refine Rq_callV [_, _, _] dX9_explained_39 clX9_199 rfl k0 my rfl rfl rfl ?_
        refine Rq_if_eq_t 93 dX9_explained_42 (by decide) rfl ?_
        refine Rq_iinc [_, _, _, _, _, _] (1) dX9_explained_93 rfl (by decide) rfl rfl rfl ?_
        refine Rq_goto 20 dX9_explained_96 (by decide) ?_
        refine Rq_dead [_, _, _, _, .retAddr 0, _] ⟨Or.inr rfl, Or.inr rfl, Or.inr rfl, Or.inr rfl, Or.inl rfl, Or.inr rfl, trivial⟩ ?_
        rw [nI_1]
        exact ih (a + 1) h (by omega) (by omega) E x
      | true =>
        rw [c1] at my
        by_cases cm : many = 1
        · subst cm
          refine Rq_iload_n dX9_explained_20 rfl ?_
          refine Rq_bipush (22) dX9_explained_21 (by decide) ?_
          refine Rq_icmp_ge_f 99 dX9_explained_23 (by decide) (nI_ge (a := a) (b := 22) (by omega) (by decide)) ?_
          refine Rq_iload_n dX9_explained_26 rfl ?_
          refine Rq_callS [_] dX9_explained_27 clX9_192 (rp_litBy (d + 4) h (by omega)) rfl rfl rfl ?_
          refine Rq_callS [_] dX9_explained_30 clX9_88 (rp_bitOf (d + 4) h _) rfl rfl rfl ?_
          refine Rq_istore [_, _, _, _, _, _] dX9_explained_33 rfl rfl rfl ?_
          refine Rq_aload_n dX9_explained_35 rfl ?_
          refine Rq_iload_n dX9_explained_36 rfl ?_
          refine Rq_iconst (0) dX9_explained_37 (by decide) ?_
          refine Rq_iload_n dX9_explained_38 rfl ?_
          refine Rq_callV [_, _, _] dX9_explained_39 clX9_199 rfl k0 my rfl rfl rfl ?_
          refine Rq_if_eq_f 93 dX9_explained_42 (by decide) (by decide) ?_
          refine Rq_iload_n dX9_explained_45 rfl ?_
          refine Rq_iconst (1) dX9_explained_46 (by decide) ?_
          refine Rq_icmp_ne_f 65 dX9_explained_47 (by decide) rfl ?_
          refine Rq_aload_n dX9_explained_50 rfl ?_
          refine Rq_iload dX9_explained_51 rfl ?_
          refine Rq_iload_n dX9_explained_53 rfl ?_
          refine Rq_callVq [_, _] dX9_explained_54 clX9_195 rfl k0 (rp_explains (d + 1) lit _ hn hn16 x) rfl rfl rfl (fun rv h2 hq => ?_)
          obtain ⟨rfl, x2⟩ := hq
          cases c2 : rEx S n lit (bcd a) with
          | true =>
            have e : rX1 S n lit 1 a = some [a] := by unfold rX1; rw [c1, c2]; rfl
            rw [e] at E
            refine Rq_if_eq_f 65 dX9_explained_57 (by decide) (by rw [show rEx S n lit (rBit (fLit (nI a))) = true from c2]; decide) ?_
            refine Rq_ldc dX9_explained_60 kcX9_203 ?_
            refine Rq_iload_n dX9_explained_62 rfl ?_
            refine Rq_iadd dX9_explained_63 ?_
            refine Rq_iret dX9_explained_64 rfl ?_
            exact K1 [a] h2 E x2
          | false =>
            have e : rX1 S n lit 1 a = none := by unfold rX1; rw [c1, c2]; rfl
            rw [e] at E
            refine Rq_if_eq_t 65 dX9_explained_57 (by decide) (by rw [show rEx S n lit (rBit (fLit (nI a))) = false from c2]; rfl) ?_
            refine Rq_iload_n dX9_explained_65 rfl ?_
            refine Rq_iconst (1) dX9_explained_66 (by decide) ?_
            refine Rq_icmp_ne_f 74 dX9_explained_67 (by decide) rfl ?_
            refine Rq_iconst (-1) dX9_explained_70 (by decide) ?_
            refine Rq_goto 83 dX9_explained_71 (by decide) ?_
            refine Rq_istore [_, _, _, _, _, _] dX9_explained_83 rfl rfl rfl ?_
            refine Rq_iload dX9_explained_85 rfl ?_
            refine Rq_if_lt_t 93 dX9_explained_87 (by decide) (by decide) ?_
            refine Rq_iinc [_, _, _, _, _, _] (1) dX9_explained_93 rfl (by decide) rfl rfl rfl ?_
            refine Rq_goto 20 dX9_explained_96 (by decide) ?_
            refine Rq_dead [_, _, _, _, .retAddr 0, .retAddr 0] ⟨Or.inr rfl, Or.inr rfl, Or.inr rfl, Or.inr rfl, Or.inl rfl, Or.inl rfl, trivial⟩ ?_
            rw [nI_1]
            exact ih (a + 1) h2 (by omega) (by omega) E x2
        · have nm1 : ¬ nI many = 1 := fun z => cm ((nI_eq (b := 1) (by omega) (by decide)).mp z)
          refine Rq_iload_n dX9_explained_20 rfl ?_
          refine Rq_bipush (22) dX9_explained_21 (by decide) ?_
          refine Rq_icmp_ge_f 99 dX9_explained_23 (by decide) (nI_ge (a := a) (b := 22) (by omega) (by decide)) ?_
          refine Rq_iload_n dX9_explained_26 rfl ?_
          refine Rq_callS [_] dX9_explained_27 clX9_192 (rp_litBy (d + 4) h (by omega)) rfl rfl rfl ?_
          refine Rq_callS [_] dX9_explained_30 clX9_88 (rp_bitOf (d + 4) h _) rfl rfl rfl ?_
          refine Rq_istore [_, _, _, _, _, _] dX9_explained_33 rfl rfl rfl ?_
          refine Rq_aload_n dX9_explained_35 rfl ?_
          refine Rq_iload_n dX9_explained_36 rfl ?_
          refine Rq_iconst (0) dX9_explained_37 (by decide) ?_
          refine Rq_iload_n dX9_explained_38 rfl ?_
          refine Rq_callV [_, _, _] dX9_explained_39 clX9_199 rfl k0 my rfl rfl rfl ?_
          refine Rq_if_eq_f 93 dX9_explained_42 (by decide) (by decide) ?_
          refine Rq_iload_n dX9_explained_45 rfl ?_
          refine Rq_iconst (1) dX9_explained_46 (by decide) ?_
          refine Rq_icmp_ne_t 65 dX9_explained_47 (by decide) nm1 ?_
          refine Rq_iload_n dX9_explained_65 rfl ?_
          refine Rq_iconst (1) dX9_explained_66 (by decide) ?_
          refine Rq_icmp_ne_t 74 dX9_explained_67 (by decide) nm1 ?_
          refine Rq_aload_n dX9_explained_74 rfl ?_
          refine Rq_iload_n dX9_explained_75 rfl ?_
          refine Rq_iload_n dX9_explained_76 rfl ?_
          refine Rq_iload dX9_explained_77 rfl ?_
          refine Rq_iload_n dX9_explained_79 rfl ?_
          refine Rq_callVq [_, _, _, _] dX9_explained_80 clX9_204 rfl k0 (rp_xFrom d lit hn hn16 (by omega) ha2 (by omega) x) rfl rfl rfl (fun rv h2 hq => ?_)
          obtain ⟨rfl, x2⟩ := hq
          have e : rX1 S n lit many a = rFrom S n lit many a := by unfold rX1; rw [c1, if_neg cm]; rfl
          rw [e] at E
          have ok := xOK_from S n lit many ha2 (show a < 22 by omega)
          cases c3 : rFrom S n lit many a with
          | none =>
            rw [c3] at E
            refine Rq_istore [_, _, _, _, _, _] dX9_explained_83 rfl rfl rfl ?_
            refine Rq_iload dX9_explained_85 rfl ?_
            refine Rq_if_lt_t 93 dX9_explained_87 (by decide) (by decide) ?_
            refine Rq_iinc [_, _, _, _, _, _] (1) dX9_explained_93 rfl (by decide) rfl rfl rfl ?_
            refine Rq_goto 20 dX9_explained_96 (by decide) ?_
            refine Rq_dead [_, _, _, _, .retAddr 0, .retAddr 0] ⟨Or.inr rfl, Or.inr rfl, Or.inr rfl, Or.inr rfl, Or.inl rfl, Or.inl rfl, trivial⟩ ?_
            rw [nI_1]
            exact ih (a + 1) h2 (by omega) (by omega) E x2
          | some y =>
            rw [c3] at E ok
            refine Rq_istore [_, _, _, _, _, _] dX9_explained_83 rfl rfl rfl ?_
            refine Rq_iload dX9_explained_85 rfl ?_
            refine Rq_if_lt_f 93 dX9_explained_87 (by decide) (fun z => by have := (xEnc_lt ok).mp z; cases this) ?_
            refine Rq_iload dX9_explained_90 rfl ?_
            refine Rq_iret dX9_explained_92 rfl ?_
            exact K1 y h2 E x2
  obtain ⟨-, -, mm, il, k0, -⟩ := id x
  refine Mq_of [_, _, _, _, _, _] (by decide +kernel) rfl rfl ?_
  refine Rq_aload_n dX9_explained_0 rfl ?_
  refine Rq_iconst (0) dX9_explained_1 (by decide) ?_
  refine Rq_iload_n dX9_explained_2 rfl ?_
  refine Rq_callVq [_, _] dX9_explained_3 clX9_195 rfl k0 (rp_explains (d + 1) lit 0 hn hn16 x) rfl rfl rfl (fun rv h2 hq => ?_)
  obtain ⟨rfl, x2⟩ := hq
  unfold rXpl
  cases c2 : rEx S n lit 0 with
  | true =>
    refine Rq_if_eq_f 11 dX9_explained_6 (by decide) (by decide) ?_
    refine Rq_iconst (0) dX9_explained_9 (by decide) ?_
    refine Rq_iret dX9_explained_10 rfl ?_
    exact ⟨rfl, x2⟩
  | false =>
    rw [if_neg (by decide)]
    refine Rq_if_eq_t 11 dX9_explained_6 (by decide) rfl ?_
    refine Rq_iconst (1) dX9_explained_11 (by decide) ?_
    refine Rq_istore_n [_, _, _, _, _, _] dX9_explained_12 rfl rfl rfl ?_
    refine Rq_iload_n dX9_explained_13 rfl ?_
    refine Rq_iconst (4) dX9_explained_14 (by decide) ?_
    refine Rq_icmp_ge_f 105 dX9_explained_15 (by decide) (by decide) ?_
    refine Rq_iconst (2) dX9_explained_18 (by decide) ?_
    refine Rq_istore_n [_, _, _, _, _, _] dX9_explained_19 rfl rfl rfl ?_
    refine inner 1 _ (Or.inl rfl) (fun o h' e x' => ⟨by rw [e]; rfl, x'⟩) (fun h' e x' => ?_) 20 2 h2 rfl (by decide) rfl x2
    rw [e]
    refine Rq_iinc [_, _, _, _, _, _] (1) dX9_explained_99 rfl (by decide) rfl rfl rfl ?_
    refine Rq_goto 13 dX9_explained_102 (by decide) ?_
    refine Rq_iload_n dX9_explained_13 rfl ?_
    refine Rq_iconst (4) dX9_explained_14 (by decide) ?_
    refine Rq_icmp_ge_f 105 dX9_explained_15 (by decide) (by decide) ?_
    refine Rq_iconst (2) dX9_explained_18 (by decide) ?_
    refine Rq_istore_n [_, _, _, _, _, _] dX9_explained_19 rfl rfl rfl ?_
    refine inner 2 _ (Or.inr (Or.inl rfl)) (fun o h' e x' => ⟨by rw [e]; rfl, x'⟩) (fun h' e x' => ?_) 20 2 h' rfl (by decide) rfl x'
    rw [e]
    refine Rq_iinc [_, _, _, _, _, _] (1) dX9_explained_99 rfl (by decide) rfl rfl rfl ?_
    refine Rq_goto 13 dX9_explained_102 (by decide) ?_
    refine Rq_iload_n dX9_explained_13 rfl ?_
    refine Rq_iconst (4) dX9_explained_14 (by decide) ?_
    refine Rq_icmp_ge_f 105 dX9_explained_15 (by decide) (by decide) ?_
    refine Rq_iconst (2) dX9_explained_18 (by decide) ?_
    refine Rq_istore_n [_, _, _, _, _, _] dX9_explained_19 rfl rfl rfl ?_
    refine inner 3 _ (Or.inr (Or.inr rfl)) (fun o h' e x' => ⟨by rw [e]; rfl, x'⟩) (fun h' e x' => ?_) 20 2 h' rfl (by decide) rfl x'
    rw [e]
    refine Rq_iinc [_, _, _, _, _, _] (1) dX9_explained_99 rfl (by decide) rfl rfl rfl ?_
    refine Rq_goto 13 dX9_explained_102 (by decide) ?_
    refine Rq_iload_n dX9_explained_13 rfl ?_
    refine Rq_iconst (4) dX9_explained_14 (by decide) ?_
    refine Rq_icmp_ge_t 105 dX9_explained_15 (by decide) (by decide) ?_
    refine Rq_iconst (-1) dX9_explained_105 (by decide) ?_
    refine Rq_iret dX9_explained_106 rfl ?_
    exact ⟨rfl, x'⟩
theorem rp_expl_oor (d : Nat) {a i mm il : Int32} {er : Nat → Int32} (hc : ¬ (isLitP a ∧ ¬ i < -1 ∧ i < 3)) (k0 : h[43]? = some (obM sm ln ic nm rm hf ht rt mm il sp rdm)) (k1 : h[46]? = some (aI 4 er)) : Mx mX9_explanation (d + 2) [.ref 43, .int a, .int i] h (some (.int (-102))) (h.set 46 (aI 4 (upd er 0 (er 0 + 1)))) := by
  have K : Rx mX9_explanation (d + 2) 21 [.ref 43, .int a, .int i, .retAddr 0] [] h (some (.int (-102))) (h.set 46 (aI 4 (upd er 0 (er 0 + 1)))) := by
    refine Rx_aload_n dX9_explanation_21 rfl ?_
    refine Rx_get dX9_explanation_22 flX9_16 k0 rfl ?_
    refine Rx_iconst (0) dX9_explanation_25 (by decide) ?_
    refine Rx_dup2 dX9_explanation_26 rfl rfl ?_
    refine Rx_iald 0 dX9_explanation_27 k1 (by decide) (by decide) rfl ?_
    refine Rx_iconst (1) dX9_explanation_28 (by decide) ?_
    refine Rx_iadd dX9_explanation_29 ?_
    refine Rx_iast 0 dX9_explanation_30 k1 (by decide) (by decide) rfl ?_
    refine Rx_bipush (-102) dX9_explanation_31 (by decide) ?_
    exact Rx_iret dX9_explanation_33 rfl
  refine Mx_of [_, _, _, _] (by decide +kernel) rfl rfl ?_
  by_cases c1 : isLitP a
  · have c2 : ¬ ((-1 : Int64) ≤ i.toInt64 ∧ i.toInt64 ≤ 2) := fun z => hc ⟨c1, Int32.not_lt.mpr (le64.mp (show (-1 : Int32).toInt64 ≤ _ from z.1)), by
      have := le64.mp (show _ ≤ (2 : Int32).toInt64 from z.2)
      rw [Int32.le_iff_toInt_le, show (2 : Int32).toInt = 2 from rfl] at this
      rw [Int32.lt_iff_toInt_lt, show (3 : Int32).toInt = 3 from rfl]
      omega⟩
    refine Rx_iload_n dX9_explanation_0 rfl ?_
    refine Rx_callS [_] dX9_explanation_1 clX9_104 (rp_isLit_t (d + 0) h c1) rfl rfl rfl ?_
    refine Rx_if_eq_f 21 dX9_explanation_4 (by decide) (by decide) ?_
    refine Rx_iload_n dX9_explanation_7 rfl ?_
    refine Rx_i2l dX9_explanation_8 ?_
    refine Rx_ldc2 dX9_explanation_9 kcX9_210 ?_
    refine Rx_ldc2 dX9_explanation_12 kcX9_212 ?_
    refine Rx_callS [_, _, _] dX9_explanation_15 clX9_69 (rp_in_f (d + 1) h c2) rfl rfl rfl ?_
    refine Rx_if_ne_f 34 dX9_explanation_18 (by decide) rfl ?_
    exact K
  · refine Rx_iload_n dX9_explanation_0 rfl ?_
    refine Rx_callS [_] dX9_explanation_1 clX9_104 (rp_isLit_f (d + 0) h c1) rfl rfl rfl ?_
    refine Rx_if_eq_t 21 dX9_explanation_4 (by decide) rfl ?_
    exact K
theorem rp_expl (d : Nat) {a : Int32} {ix : Option Nat} (hc : isLitP a) (hi : ∀ j, ix = some j → j < 3) (hn : S 0 = nI n) (hn16 : n ≤ 16) (x : RMs sm ln ic nm rm hf ht rt sp rdm S n h0 h) : Mq mX9_explanation (d + 6) [.ref 43, .int a, .int (ixI ix)] h (fun r h' => r = some (.int (exAns (rXpl S n a) ix)) ∧ RMs sm ln ic nm rm hf ht rt sp rdm S n h0 h') := by
  obtain ⟨-, -, mm, il, k0, -⟩ := id x
  have z1 : (-1 : Int64) ≤ (ixI ix).toInt64 := by
    cases ix with
    | none => decide
    | some j =>
      have : ∀ j : Nat, j < 3 → (-1 : Int64) ≤ (nI j).toInt64 := by decide
      exact this j (hi j rfl)
  have z2 : (ixI ix).toInt64 ≤ 2 := by
    cases ix with
    | none => decide
    | some j =>
      have : ∀ j : Nat, j < 3 → (nI j).toInt64 ≤ 2 := by decide
      exact this j (hi j rfl)
  refine Mq_of [_, _, _, _] (by decide +kernel) rfl rfl ?_
  refine Rq_iload_n dX9_explanation_0 rfl ?_
  refine Rq_callS [_] dX9_explanation_1 clX9_104 (rp_isLit_t (d + 4) h hc) rfl rfl rfl ?_
  refine Rq_if_eq_f 21 dX9_explanation_4 (by decide) (by decide) ?_
  refine Rq_iload_n dX9_explanation_7 rfl ?_
  refine Rq_i2l dX9_explanation_8 ?_
  refine Rq_ldc2 dX9_explanation_9 kcX9_210 ?_
  refine Rq_ldc2 dX9_explanation_12 kcX9_212 ?_
  refine Rq_callS [_, _, _] dX9_explanation_15 clX9_69 (rp_in_t (d + 5) h z1 z2) rfl rfl rfl ?_
  refine Rq_if_ne_t 34 dX9_explanation_18 (by decide) (by decide) ?_
  refine Rq_aload_n dX9_explanation_34 rfl ?_
  refine Rq_iload_n dX9_explanation_35 rfl ?_
  refine Rq_callVq [_] dX9_explanation_36 clX9_214 rfl k0 (rp_explained d a hn hn16 x) rfl rfl rfl (fun rv h2 hq => ?_)
  obtain ⟨rfl, x2⟩ := hq
  have ok := xOK_all S n a
  generalize rXpl S n a = o at ok ⊢
  cases o with
  | none =>
    cases ix with
    | none =>
      refine Rq_istore_n [_, _, _, _] dX9_explanation_39 rfl rfl rfl ?_
      refine Rq_iload_n dX9_explanation_40 rfl ?_
      refine Rq_if_ge_f 57 dX9_explanation_41 (by decide) (by decide) ?_
      refine Rq_iload_n dX9_explanation_44 rfl ?_
      refine Rq_if_ge_f 52 dX9_explanation_45 (by decide) (by decide) ?_
      refine Rq_iconst (-1) dX9_explanation_48 (by decide) ?_
      refine Rq_goto 56 dX9_explanation_49 (by decide) ?_
      refine Rq_iret dX9_explanation_56 rfl ?_
      exact ⟨rfl, x2⟩
    | some j =>
      have : ∀ j : Nat, j < 3 → 0 ≤ nI j := by decide
      refine Rq_istore_n [_, _, _, _] dX9_explanation_39 rfl rfl rfl ?_
      refine Rq_iload_n dX9_explanation_40 rfl ?_
      refine Rq_if_ge_t 57 dX9_explanation_41 (by decide) (this j (hi j rfl)) ?_
      refine Rq_iload_n dX9_explanation_57 rfl ?_
      refine Rq_if_lt_t 69 dX9_explanation_58 (by decide) (by decide) ?_
      refine Rq_iconst (0) dX9_explanation_69 (by decide) ?_
      refine Rq_iret dX9_explanation_70 rfl ?_
      exact ⟨rfl, x2⟩
  | some l =>
    obtain ⟨l1, l2⟩ := ok l rfl
    obtain ⟨n1, n2, n3⟩ := xN_ok l1 l2
    have ed : nI (xN l) / 100000 = nI l.length := by rw [show (100000 : Int32) = nI 100000 from rfl, pk_div n1 (by decide) (by decide), n2]
    rw [xEnc_N]
    cases ix with
    | none =>
      refine Rq_istore_n [_, _, _, _] dX9_explanation_39 rfl rfl rfl ?_
      refine Rq_iload_n dX9_explanation_40 rfl ?_
      refine Rq_if_ge_f 57 dX9_explanation_41 (by decide) (by decide) ?_
      refine Rq_iload_n dX9_explanation_44 rfl ?_
      refine Rq_if_ge_t 52 dX9_explanation_45 (by decide) (nI_pos' n1) ?_
      refine Rq_iload_n dX9_explanation_52 rfl ?_
      refine Rq_ldc dX9_explanation_53 kcX9_203 ?_
      refine Rq_idiv dX9_explanation_55 (by decide) ?_
      refine Rq_iret dX9_explanation_56 rfl ?_
      exact ⟨by rw [ed]; rfl, x2⟩
    | some j =>
      have hj := hi j rfl
      have : ∀ j : Nat, j < 3 → 0 ≤ nI j := by decide
      by_cases cl : j < l.length
      · have e5 : (5 : Int32) * nI j = nI (5 * j) := pk_mul 5 j
        have es : ∀ j : Nat, j < 3 → ((nI (5 * j) &&& 31).toBitVec.smod 32).toNat = 5 * j := by decide
        refine Rq_istore_n [_, _, _, _] dX9_explanation_39 rfl rfl rfl ?_
        refine Rq_iload_n dX9_explanation_40 rfl ?_
        refine Rq_if_ge_t 57 dX9_explanation_41 (by decide) (this j hj) ?_
        refine Rq_iload_n dX9_explanation_57 rfl ?_
        refine Rq_if_lt_f 69 dX9_explanation_58 (by decide) (nI_pos n1) ?_
        refine Rq_iload_n dX9_explanation_61 rfl ?_
        refine Rq_iload_n dX9_explanation_62 rfl ?_
        refine Rq_ldc dX9_explanation_63 kcX9_203 ?_
        refine Rq_idiv dX9_explanation_65 (by decide) ?_
        refine Rq_icmp_lt_t 71 dX9_explanation_66 (by decide) (by rw [ed]; exact nI_lt cl (by omega)) ?_
        refine Rq_iload_n dX9_explanation_71 rfl ?_
        refine Rq_ldc dX9_explanation_72 kcX9_203 ?_
        refine Rq_irem dX9_explanation_74 (by decide) ?_
        refine Rq_iconst (5) dX9_explanation_75 (by decide) ?_
        refine Rq_iload_n dX9_explanation_76 rfl ?_
        refine Rq_imul dX9_explanation_77 ?_
        refine Rq_ishr dX9_explanation_78 ?_
        refine Rq_bipush (31) dX9_explanation_79 (by decide) ?_
        refine Rq_iand dX9_explanation_81 ?_
        rw [show nI (xN l) - nI (xN l) / 100000 * 100000 = nI (xN l % 100000) from pk_rem n1 (by decide) (by decide), show (ixI (some j)) = nI j from rfl, e5, pk_shrN (by omega) _ (5 * j) (es j hj), pk_andN (Nat.lt_of_le_of_lt (Nat.div_le_self _ _) (by omega)) 5 (by decide), n3 j cl]
        have hlt := (l2 (l.getD j 0) (by rw [List.getD_eq_getElem?_getD, List.getElem?_eq_getElem cl]; exact List.getElem_mem cl)).2
        refine Rq_callS [_] dX9_explanation_82 clX9_192 (rp_litBy (d + 5) h2 (by omega)) rfl rfl rfl ?_
        refine Rq_iret dX9_explanation_85 rfl ?_
        refine ⟨?_, x2⟩
        simp only [exAns, if_pos cl]
      · refine Rq_istore_n [_, _, _, _] dX9_explanation_39 rfl rfl rfl ?_
        refine Rq_iload_n dX9_explanation_40 rfl ?_
        refine Rq_if_ge_t 57 dX9_explanation_41 (by decide) (this j hj) ?_
        refine Rq_iload_n dX9_explanation_57 rfl ?_
        refine Rq_if_lt_f 69 dX9_explanation_58 (by decide) (nI_pos n1) ?_
        refine Rq_iload_n dX9_explanation_61 rfl ?_
        refine Rq_iload_n dX9_explanation_62 rfl ?_
        refine Rq_ldc dX9_explanation_63 kcX9_203 ?_
        refine Rq_idiv dX9_explanation_65 (by decide) ?_
        refine Rq_icmp_lt_f 71 dX9_explanation_66 (by decide) (by rw [ed]; exact nI_nlt (by omega) (by omega)) ?_
        refine Rq_iconst (0) dX9_explanation_69 (by decide) ?_
        refine Rq_iret dX9_explanation_70 rfl ?_
        refine ⟨?_, x2⟩
        simp only [exAns, if_neg cl]
end RF
