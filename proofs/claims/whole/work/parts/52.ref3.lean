/-! the reference: models -/
/-- the literals that are true in the assignment a -/
def mW (a : Nat) : Int32 := nI a ||| ((1023 &&& (nI a ^^^ (-1))) <<< ((10 : Int32) &&& 31))
def rCl (S : Nat → Int32) (a : Nat) : Nat → Bool
  | 0 => true
  | k + 1 => rCl S a k && !(decide (S (1 + k) &&& mW a = 0))
def rAs (S : Nat → Int32) (a : Nat) : Bool := decide (nI a &&& S 18 = 0) && decide (S 17 &&& (nI a ^^^ (-1)) = 0)
def rMod (S : Nat → Int32) (n a : Nat) : Bool := rAs S a && rCl S a n
theorem rCl_f {S : Nat → Int32} {a k : Nat} (z : rCl S a k = false) : ∀ j, rCl S a (k + j) = false
  | 0 => z
  | j + 1 => by
    have := rCl_f z j
    rw [show k + (j + 1) = (k + j) + 1 by omega]
    unfold rCl
    rw [this]
    rfl
theorem b2z (b : Bool) : b2i b = 0 ↔ b = false := by cases b <;> decide
section RF
variable {h : Hp} {sm ln ic nm rm hf ht rt mm il sp rdm : Int32} {S : Nat → Int32} {n : Nat}
theorem ismod_loop (d : Nat) {a : Nat} (ha : a < 1024) (h0 : h[43]? = some (obM sm ln ic nm rm hf ht rt mm il sp rdm)) (h1 : h[44]? = some (aI 39 S)) (hn : S 0 = nI n) (hn16 : n ≤ 16) : ∀ (j i : Nat), i + j = n → Rx mX9_isModel d 34 [.ref 43, .int (nI a), .int (b2i (rAs S a && rCl S a i)), .int (nI i)] [] h (some (.int (b2i (rMod S n a)))) h := by
  intro j
  induction j with
  | zero =>
    intro i hi
    have e : i = n := by omega
    subst e
    refine Rx_iload_n dX9_isModel_34 rfl ?_
    refine Rx_aload_n dX9_isModel_35 rfl ?_
    refine Rx_get dX9_isModel_36 flX9_7 h0 rfl ?_
    refine Rx_iconst (0) dX9_isModel_39 (by decide) ?_
    refine Rx_iald 0 dX9_isModel_40 h1 (by decide) (by decide) rfl ?_
    refine Rx_icmp_ge_t 84 dX9_isModel_41 (by decide) (by rw [hn]; exact nI_le (Nat.le_refl _) (by omega)) ?_
    refine Rx_iload_n dX9_isModel_84 rfl ?_
    exact Rx_zret dX9_isModel_85 rfl (by unfold b2i; split <;> decide)
  | succ j ih =>
    intro i hi
    cases c : (rAs S a && rCl S a i) with
    | false =>
      have e : rMod S n a = false := by
        unfold rMod
        cases c2 : rAs S a with
        | false => rfl
        | true =>
          rw [c2, Bool.true_and] at c
          have := rCl_f c (j + 1)
          rw [hi] at this
          rw [this]
          rfl
      rw [e]
      refine Rx_iload_n dX9_isModel_34 rfl ?_
      refine Rx_aload_n dX9_isModel_35 rfl ?_
      refine Rx_get dX9_isModel_36 flX9_7 h0 rfl ?_
      refine Rx_iconst (0) dX9_isModel_39 (by decide) ?_
      refine Rx_iald 0 dX9_isModel_40 h1 (by decide) (by decide) rfl ?_
      refine Rx_icmp_ge_f 84 dX9_isModel_41 (by decide) (by rw [hn]; exact nI_ge (by omega) (by omega)) ?_
      refine Rx_iload_n dX9_isModel_44 rfl ?_
      refine Rx_if_eq_t 84 dX9_isModel_45 (by decide) rfl ?_
      refine Rx_iload_n dX9_isModel_84 rfl ?_
      exact Rx_zret dX9_isModel_85 rfl (by decide)
    | true =>
      have q := ih (i + 1) (by omega)
      have ca : rAs S a = true := by cases z : rAs S a with | true => rfl | false => rw [z] at c; cases c
      have cc : rCl S a i = true := by rw [ca, Bool.true_and] at c; exact c
      by_cases c3 : S (1 + i) &&& mW a = 0
      · have e : (rAs S a && rCl S a (i + 1)) = false := by simp only [rCl, ca, cc, c3]; decide
        rw [e] at q
        refine Rx_iload_n dX9_isModel_34 rfl ?_
        refine Rx_aload_n dX9_isModel_35 rfl ?_
        refine Rx_get dX9_isModel_36 flX9_7 h0 rfl ?_
        refine Rx_iconst (0) dX9_isModel_39 (by decide) ?_
        refine Rx_iald 0 dX9_isModel_40 h1 (by decide) (by decide) rfl ?_
        refine Rx_icmp_ge_f 84 dX9_isModel_41 (by decide) (by rw [hn]; exact nI_ge (by omega) (by omega)) ?_
        refine Rx_iload_n dX9_isModel_44 rfl ?_
        refine Rx_if_eq_f 84 dX9_isModel_45 (by decide) (by decide) ?_
        refine Rx_aload_n dX9_isModel_48 rfl ?_
        refine Rx_get dX9_isModel_49 flX9_7 h0 rfl ?_
        refine Rx_iconst (1) dX9_isModel_52 (by decide) ?_
        refine Rx_iload_n dX9_isModel_53 rfl ?_
        refine Rx_iadd dX9_isModel_54 ?_
        refine Rx_iald (1 + i) dX9_isModel_55 h1 (by omega) (by decide) (nI_add 1 i) ?_
        refine Rx_iload_n dX9_isModel_56 rfl ?_
        refine Rx_sipush (1023) dX9_isModel_57 (by decide) ?_
        refine Rx_iload_n dX9_isModel_60 rfl ?_
        refine Rx_iconst (-1) dX9_isModel_61 (by decide) ?_
        refine Rx_ixor dX9_isModel_62 ?_
        refine Rx_iand dX9_isModel_63 ?_
        refine Rx_bipush (10) dX9_isModel_64 (by decide) ?_
        refine Rx_ishl dX9_isModel_66 ?_
        refine Rx_ior dX9_isModel_67 ?_
        refine Rx_iand dX9_isModel_68 ?_
        refine Rx_if_eq_t 76 dX9_isModel_69 (by decide) c3 ?_
        refine Rx_iconst (0) dX9_isModel_76 (by decide) ?_
        refine Rx_istore_n [_, _, _, _] dX9_isModel_77 rfl rfl rfl ?_
        refine Rx_iinc [_, _, _, _] (1) dX9_isModel_78 rfl (by decide) rfl rfl rfl ?_
        refine Rx_goto 34 dX9_isModel_81 (by decide) ?_
        rw [nI_1]
        exact q
      · have e : (rAs S a && rCl S a (i + 1)) = true := by simp only [rCl, ca, cc, c3]; decide
        rw [e] at q
        refine Rx_iload_n dX9_isModel_34 rfl ?_
        refine Rx_aload_n dX9_isModel_35 rfl ?_
        refine Rx_get dX9_isModel_36 flX9_7 h0 rfl ?_
        refine Rx_iconst (0) dX9_isModel_39 (by decide) ?_
        refine Rx_iald 0 dX9_isModel_40 h1 (by decide) (by decide) rfl ?_
        refine Rx_icmp_ge_f 84 dX9_isModel_41 (by decide) (by rw [hn]; exact nI_ge (by omega) (by omega)) ?_
        refine Rx_iload_n dX9_isModel_44 rfl ?_
        refine Rx_if_eq_f 84 dX9_isModel_45 (by decide) (by decide) ?_
        refine Rx_aload_n dX9_isModel_48 rfl ?_
        refine Rx_get dX9_isModel_49 flX9_7 h0 rfl ?_
        refine Rx_iconst (1) dX9_isModel_52 (by decide) ?_
        refine Rx_iload_n dX9_isModel_53 rfl ?_
        refine Rx_iadd dX9_isModel_54 ?_
        refine Rx_iald (1 + i) dX9_isModel_55 h1 (by omega) (by decide) (nI_add 1 i) ?_
        refine Rx_iload_n dX9_isModel_56 rfl ?_
        refine Rx_sipush (1023) dX9_isModel_57 (by decide) ?_
        refine Rx_iload_n dX9_isModel_60 rfl ?_
        refine Rx_iconst (-1) dX9_isModel_61 (by decide) ?_
        refine Rx_ixor dX9_isModel_62 ?_
        refine Rx_iand dX9_isModel_63 ?_
        refine Rx_bipush (10) dX9_isModel_64 (by decide) ?_
        refine Rx_ishl dX9_isModel_66 ?_
        refine Rx_ior dX9_isModel_67 ?_
        refine Rx_iand dX9_isModel_68 ?_
        refine Rx_if_eq_f 76 dX9_isModel_69 (by decide) c3 ?_
        refine Rx_iconst (1) dX9_isModel_72 (by decide) ?_
        refine Rx_goto 77 dX9_isModel_73 (by decide) ?_
        refine Rx_istore_n [_, _, _, _] dX9_isModel_77 rfl rfl rfl ?_
        refine Rx_iinc [_, _, _, _] (1) dX9_isModel_78 rfl (by decide) rfl rfl rfl ?_
        refine Rx_goto 34 dX9_isModel_81 (by decide) ?_
        rw [nI_1]
        exact q
theorem rp_isModel (d : Nat) {a : Nat} (ha : a < 1024) (h0 : h[43]? = some (obM sm ln ic nm rm hf ht rt mm il sp rdm)) (h1 : h[44]? = some (aI 39 S)) (hn : S 0 = nI n) (hn16 : n ≤ 16) : Mx mX9_isModel d [.ref 43, .int (nI a)] h (some (.int (b2i (rMod S n a)))) h := by
  have q := ismod_loop d ha h0 h1 hn hn16 n 0 (by omega)
  refine Mx_of [_, _, _, _] (by decide +kernel) rfl rfl ?_
  simp only [rCl, Bool.and_true] at q
  by_cases c1 : nI a &&& S 18 = 0
  · by_cases c2 : S 17 &&& (nI a ^^^ (-1)) = 0
    · have e : rAs S a = true := by simp only [rAs, c1, c2]; decide
      rw [e] at q
      refine Rx_iload_n dX9_isModel_0 rfl ?_
      refine Rx_aload_n dX9_isModel_1 rfl ?_
      refine Rx_get dX9_isModel_2 flX9_7 h0 rfl ?_
      refine Rx_bipush (18) dX9_isModel_5 (by decide) ?_
      refine Rx_iald 18 dX9_isModel_7 h1 (by decide) (by decide) rfl ?_
      refine Rx_iand dX9_isModel_8 ?_
      refine Rx_if_ne_f 30 dX9_isModel_9 (by decide) c1 ?_
      refine Rx_aload_n dX9_isModel_12 rfl ?_
      refine Rx_get dX9_isModel_13 flX9_7 h0 rfl ?_
      refine Rx_bipush (17) dX9_isModel_16 (by decide) ?_
      refine Rx_iald 17 dX9_isModel_18 h1 (by decide) (by decide) rfl ?_
      refine Rx_iload_n dX9_isModel_19 rfl ?_
      refine Rx_iconst (-1) dX9_isModel_20 (by decide) ?_
      refine Rx_ixor dX9_isModel_21 ?_
      refine Rx_iand dX9_isModel_22 ?_
      refine Rx_if_ne_f 30 dX9_isModel_23 (by decide) c2 ?_
      refine Rx_iconst (1) dX9_isModel_26 (by decide) ?_
      refine Rx_goto 31 dX9_isModel_27 (by decide) ?_
      refine Rx_istore_n [_, _, _, _] dX9_isModel_31 rfl rfl rfl ?_
      refine Rx_iconst (0) dX9_isModel_32 (by decide) ?_
      refine Rx_istore_n [_, _, _, _] dX9_isModel_33 rfl rfl rfl ?_
      exact q
    · have e : rAs S a = false := by simp only [rAs, c1, c2]; decide
      rw [e] at q
      refine Rx_iload_n dX9_isModel_0 rfl ?_
      refine Rx_aload_n dX9_isModel_1 rfl ?_
      refine Rx_get dX9_isModel_2 flX9_7 h0 rfl ?_
      refine Rx_bipush (18) dX9_isModel_5 (by decide) ?_
      refine Rx_iald 18 dX9_isModel_7 h1 (by decide) (by decide) rfl ?_
      refine Rx_iand dX9_isModel_8 ?_
      refine Rx_if_ne_f 30 dX9_isModel_9 (by decide) c1 ?_
      refine Rx_aload_n dX9_isModel_12 rfl ?_
      refine Rx_get dX9_isModel_13 flX9_7 h0 rfl ?_
      refine Rx_bipush (17) dX9_isModel_16 (by decide) ?_
      refine Rx_iald 17 dX9_isModel_18 h1 (by decide) (by decide) rfl ?_
      refine Rx_iload_n dX9_isModel_19 rfl ?_
      refine Rx_iconst (-1) dX9_isModel_20 (by decide) ?_
      refine Rx_ixor dX9_isModel_21 ?_
      refine Rx_iand dX9_isModel_22 ?_
      refine Rx_if_ne_t 30 dX9_isModel_23 (by decide) c2 ?_
      refine Rx_iconst (0) dX9_isModel_30 (by decide) ?_
      refine Rx_istore_n [_, _, _, _] dX9_isModel_31 rfl rfl rfl ?_
      refine Rx_iconst (0) dX9_isModel_32 (by decide) ?_
      refine Rx_istore_n [_, _, _, _] dX9_isModel_33 rfl rfl rfl ?_
      exact q
  · have e : rAs S a = false := by simp only [rAs, c1]; rfl
    rw [e] at q
    refine Rx_iload_n dX9_isModel_0 rfl ?_
    refine Rx_aload_n dX9_isModel_1 rfl ?_
    refine Rx_get dX9_isModel_2 flX9_7 h0 rfl ?_
    refine Rx_bipush (18) dX9_isModel_5 (by decide) ?_
    refine Rx_iald 18 dX9_isModel_7 h1 (by decide) (by decide) rfl ?_
    refine Rx_iand dX9_isModel_8 ?_
    refine Rx_if_ne_t 30 dX9_isModel_9 (by decide) c1 ?_
    refine Rx_iconst (0) dX9_isModel_30 (by decide) ?_
    refine Rx_istore_n [_, _, _, _] dX9_isModel_31 rfl rfl rfl ?_
    refine Rx_iconst (0) dX9_isModel_32 (by decide) ?_
    refine Rx_istore_n [_, _, _, _] dX9_isModel_33 rfl rfl rfl ?_
    exact q
/-- the row g lists the places below m that have p -/
def LM (g : Nat → Int32) (p : Nat → Bool) (m : Nat) : Prop := ∀ a, a < m → p a = true → g (fb_ct p a) = nI a
theorem lists_loop (d : Nat) (hn : S 0 = nI n) (hn16 : n ≤ 16) (h0 : Hp) : ∀ (j i : Nat) (h : Hp) (g : Nat → Int32), i + j = 1024 → Fr [43, 60] h0 h → h[43]? = some (obM sm ln ic nm rm hf ht rt (nI (fb_ct (rMod S n) i)) 1 sp rdm) → h[44]? = some (aI 39 S) → h[60]? = some (aI 1024 g) → LM g (rMod S n) i →
    Rq mX9_lists (d + 1) 20 [.ref 43, .int (nI i)] [] h (fun r h' => r = none ∧ Fr [43, 60] h0 h' ∧ h'[43]? = some (obM sm ln ic nm rm hf ht rt (nI (fb_ct (rMod S n) 1024)) 1 sp rdm) ∧ ∃ g, h'[60]? = some (aI 1024 g) ∧ LM g (rMod S n) 1024) := by
  intro j
  induction j with
  | zero =>
    intro i h g hi F k0 k1 k2 lm
    have e : i = 1024 := by omega
    subst e
    refine Rq_iload_n dX9_lists_20 rfl ?_
    refine Rq_sipush (1023) dX9_lists_21 (by decide) ?_
    refine Rq_icmp_gt_t 61 dX9_lists_24 (by decide) (nI_lt (a := 1023) (b := 1024) (by decide) (by decide)) ?_
    refine Rq_vret dX9_lists_61 rfl ?_
    exact ⟨rfl, F, k0, g, k2, lm⟩
  | succ j ih =>
    intro i h g hi F k0 k1 k2 lm
    have im := rp_isModel d (a := i) (by omega) k0 k1 hn hn16
    have hc := fb_ct_le (rMod S n) i
    cases c : rMod S n i with
    | false =>
      rw [c] at im
      have e : fb_ct (rMod S n) (i + 1) = fb_ct (rMod S n) i := by rw [fb_ct_succ, c]; rfl
      refine Rq_iload_n dX9_lists_20 rfl ?_
      refine Rq_sipush (1023) dX9_lists_21 (by decide) ?_
      refine Rq_icmp_gt_f 61 dX9_lists_24 (by decide) (nI_nlt (a := 1023) (b := i) (by omega) (by decide)) ?_
      refine Rq_aload_n dX9_lists_27 rfl ?_
      refine Rq_iload_n dX9_lists_28 rfl ?_
      refine Rq_callV [_] dX9_lists_29 clX9_173 rfl k0 im rfl rfl rfl ?_
      refine Rq_if_eq_t 55 dX9_lists_32 (by decide) rfl ?_
      refine Rq_iinc [_, _] (1) dX9_lists_55 rfl (by decide) rfl rfl rfl ?_
      refine Rq_goto 20 dX9_lists_58 (by decide) ?_
      rw [nI_1]
      refine ih (i + 1) h g (by omega) F (by rw [e]; exact k0) k1 k2 (fun a ha hp => ?_)
      by_cases ea : a = i
      · subst ea; rw [c] at hp; cases hp
      · exact lm a (by omega) hp
    | true =>
      rw [c] at im
      have e : fb_ct (rMod S n) (i + 1) = fb_ct (rMod S n) i + 1 := by rw [fb_ct_succ, c]; rfl
      refine Rq_iload_n dX9_lists_20 rfl ?_
      refine Rq_sipush (1023) dX9_lists_21 (by decide) ?_
      refine Rq_icmp_gt_f 61 dX9_lists_24 (by decide) (nI_nlt (a := 1023) (b := i) (by omega) (by decide)) ?_
      refine Rq_aload_n dX9_lists_27 rfl ?_
      refine Rq_iload_n dX9_lists_28 rfl ?_
      refine Rq_callV [_] dX9_lists_29 clX9_173 rfl k0 im rfl rfl rfl ?_
      refine Rq_if_eq_f 55 dX9_lists_32 (by decide) (by decide) ?_
      refine Rq_aload_n dX9_lists_35 rfl ?_
      refine Rq_get dX9_lists_36 flX9_59 k0 rfl ?_
      refine Rq_aload_n dX9_lists_39 rfl ?_
      refine Rq_get dX9_lists_40 flX9_170 k0 rfl ?_
      refine Rq_iload_n dX9_lists_43 rfl ?_
      refine Rq_iast (fb_ct (rMod S n) i) dX9_lists_44 k2 (by omega) (by decide) rfl ?_
      have a0 := hNs (e' := aI 1024 (upd g (fb_ct (rMod S n) i) (nI i))) (by decide : (60 : Nat) ≠ 43) k0
      refine Rq_aload_n dX9_lists_45 rfl ?_
      refine Rq_dup dX9_lists_46 rfl ?_
      refine Rq_get dX9_lists_47 flX9_170 a0 rfl ?_
      refine Rq_iconst (1) dX9_lists_50 (by decide) ?_
      refine Rq_iadd dX9_lists_51 ?_
      refine Rq_put [_, _, _, _, _, _, _, _, _, _, _, _, _, _, _, _, _, _, _, _, _, _, _, _, _, _, _, _, _, _] dX9_lists_52 fpX9_170 a0 rfl (okv_i _) rfl ?_
      rw [nI_1]
      refine Rq_iinc [_, _] (1) dX9_lists_55 rfl (by decide) rfl rfl rfl ?_
      refine Rq_goto 20 dX9_lists_58 (by decide) ?_
      rw [nI_1]
      refine ih (i + 1) _ (upd g (fb_ct (rMod S n) i) (nI i)) (by omega) (F.trans (Fr.trans (Fr.set (by decide)) (Fr.set (by decide)))) (by rw [e]; exact hS _ a0) (hNs (by decide) (hNs (by decide) k1)) (hNs (by decide) (hS _ k2)) (fun a ha hp => ?_)
      by_cases ea : a = i
      · subst ea
        simp [upd]
      · have hm := fb_ct_mono (rMod S n) (show a + 1 ≤ i by omega)
        rw [fb_ct_succ, hp] at hm
        simp only [upd]
        rw [if_neg (by simp at hm; omega)]
        exact lm a (by omega) hp
/-- the models are listed, if it says so -/
def RM (h : Hp) (S : Nat → Int32) (n : Nat) (mm il : Int32) : Prop := ∃ g, h[60]? = some (aI 1024 g) ∧ (il = 0 ∨ (il = 1 ∧ mm = nI (fb_ct (rMod S n) 1024) ∧ LM g (rMod S n) 1024))
theorem rp_lists (d : Nat) (h0 : h[43]? = some (obM sm ln ic nm rm hf ht rt mm il sp rdm)) (h1 : h[44]? = some (aI 39 S)) (hn : S 0 = nI n) (hn16 : n ≤ 16) (x : RM h S n mm il) :
    Mq mX9_lists (d + 1) [.ref 43] h (fun r h' => r = none ∧ Fr [43, 60] h h' ∧ h'[43]? = some (obM sm ln ic nm rm hf ht rt (nI (fb_ct (rMod S n) 1024)) 1 sp rdm) ∧ ∃ g, h'[60]? = some (aI 1024 g) ∧ LM g (rMod S n) 1024) := by
  obtain ⟨g, h2, x⟩ := x
  refine Mq_of [_, _] (by decide +kernel) rfl rfl ?_
  rcases x with rfl | ⟨rfl, rfl, lm⟩
  · refine Rq_aload_n dX9_lists_0 rfl ?_
    refine Rq_get dX9_lists_1 flX9_81 h0 rfl ?_
    refine Rq_if_eq_t 8 dX9_lists_4 (by decide) rfl ?_
    refine Rq_aload_n dX9_lists_8 rfl ?_
    refine Rq_iconst (1) dX9_lists_9 (by decide) ?_
    refine Rq_put [_, _, _, _, _, _, _, _, _, _, _, _, _, _, _, _, _, _, _, _, _, _, _, _, _, _, _, _, _, _] dX9_lists_10 fpX9_81 h0 rfl okv_1 rfl ?_
    have a0 := hS (obM sm ln ic nm rm hf ht rt mm 1 sp rdm) h0
    refine Rq_aload_n dX9_lists_13 rfl ?_
    refine Rq_iconst (0) dX9_lists_14 (by decide) ?_
    refine Rq_put [_, _, _, _, _, _, _, _, _, _, _, _, _, _, _, _, _, _, _, _, _, _, _, _, _, _, _, _, _, _] dX9_lists_15 fpX9_170 a0 rfl (okv_i _) rfl ?_
    refine Rq_iconst (0) dX9_lists_18 (by decide) ?_
    refine Rq_istore_n [_, _] dX9_lists_19 rfl rfl rfl ?_
    rw [List.set_set]
    exact lists_loop d hn hn16 h 1024 0 _ g rfl (Fr.set (by decide)) (hS _ h0) (hNs (by decide) h1) (hNs (by decide) h2) (fun a ha => by omega)
  · refine Rq_aload_n dX9_lists_0 rfl ?_
    refine Rq_get dX9_lists_1 flX9_81 h0 rfl ?_
    refine Rq_if_eq_f 8 dX9_lists_4 (by decide) (by decide) ?_
    refine Rq_vret dX9_lists_7 rfl ?_
    exact ⟨rfl, Fr.rfl', h0, g, h2, lm⟩
/-- models in which the literals of bits are true -/
def rHas (bits : Int32) (a : Nat) : Bool := decide (bits &&& (mW a ^^^ (-1)) = 0)
def rBy (S : Nat → Int32) (n : Nat) (bits : Int32) : Nat := fb_ct (fun a => rMod S n a && rHas bits a) 1024
theorem by_sum {g : Nat → Int32} {p t : Nat → Bool} {u : Int32 → Bool} (hu : ∀ a, a < 1024 → u (nI a) = t a) : ∀ m, m ≤ 1024 → LM g p m → fb_ct (fun k => u (g k)) (fb_ct p m) = fb_ct (fun a => p a && t a) m
  | 0, _, _ => rfl
  | m + 1, hm, lm => by
    have ih := by_sum (g := g) (p := p) hu m (by omega) (fun a ha hp => lm a (by omega) hp)
    rw [fb_ct_succ p, fb_ct_succ (fun a => p a && t a)]
    cases c : p m with
    | false => simp only [Bool.false_and]; exact ih
    | true =>
      simp only [Bool.true_and]
      rw [if_pos trivial, fb_ct_succ, ih, lm m (by omega) c, hu m (by omega)]
def rmW (x : Int32) : Int32 := x ||| ((1023 &&& (x ^^^ (-1))) <<< ((10 : Int32) &&& 31))
theorem rp_modelsBy (d : Nat) (bits : Int32) (h0 : h[43]? = some (obM sm ln ic nm rm hf ht rt mm il sp rdm)) (h1 : h[44]? = some (aI 39 S)) (hn : S 0 = nI n) (hn16 : n ≤ 16) (x : RM h S n mm il) :
    Mq mX9_modelsBy (d + 2) [.ref 43, .int bits] h (fun r h' => r = some (.int (nI (rBy S n bits))) ∧ Fr [43, 60] h h' ∧ ∃ mm' il', h'[43]? = some (obM sm ln ic nm rm hf ht rt mm' il' sp rdm) ∧ RM h' S n mm' il') := by
  refine Mq_of [_, _, _, _, _] (by decide +kernel) rfl rfl ?_
  refine Rq_aload_n dX9_modelsBy_0 rfl ?_
  refine Rq_callVq [] dX9_modelsBy_1 clX9_176 rfl h0 (rp_lists d h0 h1 hn hn16 x) rfl rfl rfl (fun rv h3 hq => ?_)
  obtain ⟨rfl, F, k0, g, k2, lm⟩ := hq
  have hle := fb_ct_le (rMod S n) 1024
  have loop : ∀ (j i : Nat) (x4 : Value), i + j = fb_ct (rMod S n) 1024 → Rq mX9_modelsBy (d + 2) 8 [.ref 43, .int bits, .int (nI (fb_ct (fun k => decide (bits &&& (rmW (g k) ^^^ (-1)) = 0)) i)), .int (nI i), .retAddr 0] [] h3 (fun r h' => r = some (.int (nI (rBy S n bits))) ∧ Fr [43, 60] h h' ∧ ∃ mm' il', h'[43]? = some (obM sm ln ic nm rm hf ht rt mm' il' sp rdm) ∧ RM h' S n mm' il') := by
    intro j
    induction j with
    | zero =>
      intro i x4 hi
      have e : i = fb_ct (rMod S n) 1024 := by omega
      refine Rq_iload_n dX9_modelsBy_8 rfl ?_
      refine Rq_aload_n dX9_modelsBy_9 rfl ?_
      refine Rq_get dX9_modelsBy_10 flX9_170 k0 rfl ?_
      refine Rq_icmp_ge_t 59 dX9_modelsBy_13 (by decide) (by rw [e]; exact nI_le (Nat.le_refl _) (by omega)) ?_
      refine Rq_iload_n dX9_modelsBy_59 rfl ?_
      refine Rq_iret dX9_modelsBy_60 rfl ?_
      refine ⟨?_, F, _, _, k0, g, k2, Or.inr ⟨rfl, rfl, lm⟩⟩
      rw [e, by_sum (t := rHas bits) (u := fun x => decide (bits &&& (rmW x ^^^ (-1)) = 0)) (fun a ha => rfl) 1024 (Nat.le_refl _) lm]
      rfl
    | succ j ih =>
      intro i x4 hi
      have q := ih (i + 1) x4 (by omega)
      rw [fb_ct_succ] at q
      by_cases c : bits &&& (rmW (g i) ^^^ (-1)) = 0
      · rw [show decide (bits &&& (rmW (g i) ^^^ (-1)) = 0) = true from decide_eq_true c] at q
        refine Rq_iload_n dX9_modelsBy_8 rfl ?_
        refine Rq_aload_n dX9_modelsBy_9 rfl ?_
        refine Rq_get dX9_modelsBy_10 flX9_170 k0 rfl ?_
        refine Rq_icmp_ge_f 59 dX9_modelsBy_13 (by decide) (nI_ge (by omega) (by omega)) ?_
        refine Rq_aload_n dX9_modelsBy_16 rfl ?_
        refine Rq_get dX9_modelsBy_17 flX9_59 k0 rfl ?_
        refine Rq_iload_n dX9_modelsBy_20 rfl ?_
        refine Rq_iald i dX9_modelsBy_21 k2 (by omega) (by decide) rfl ?_
        refine Rq_istore [_, _, _, _, _] dX9_modelsBy_22 rfl rfl rfl ?_
        refine Rq_iload_n dX9_modelsBy_24 rfl ?_
        refine Rq_iload_n dX9_modelsBy_25 rfl ?_
        refine Rq_iload dX9_modelsBy_26 rfl ?_
        refine Rq_sipush (1023) dX9_modelsBy_28 (by decide) ?_
        refine Rq_iload dX9_modelsBy_31 rfl ?_
        refine Rq_iconst (-1) dX9_modelsBy_33 (by decide) ?_
        refine Rq_ixor dX9_modelsBy_34 ?_
        refine Rq_iand dX9_modelsBy_35 ?_
        refine Rq_bipush (10) dX9_modelsBy_36 (by decide) ?_
        refine Rq_ishl dX9_modelsBy_38 ?_
        refine Rq_ior dX9_modelsBy_39 ?_
        refine Rq_iconst (-1) dX9_modelsBy_40 (by decide) ?_
        refine Rq_ixor dX9_modelsBy_41 ?_
        refine Rq_iand dX9_modelsBy_42 ?_
        refine Rq_if_ne_f 50 dX9_modelsBy_43 (by decide) c ?_
        refine Rq_iconst (1) dX9_modelsBy_46 (by decide) ?_
        refine Rq_goto 51 dX9_modelsBy_47 (by decide) ?_
        refine Rq_iadd dX9_modelsBy_51 ?_
        refine Rq_istore_n [_, _, _, _, _] dX9_modelsBy_52 rfl rfl rfl ?_
        refine Rq_iinc [_, _, _, _, _] (1) dX9_modelsBy_53 rfl (by decide) rfl rfl rfl ?_
        refine Rq_goto 8 dX9_modelsBy_56 (by decide) ?_
        refine Rq_dead [_, _, _, _, .retAddr 0] ⟨Or.inr rfl, Or.inr rfl, Or.inr rfl, Or.inr rfl, Or.inl rfl, trivial⟩ ?_
        rw [nI_1, nI_1]
        exact q
      · rw [show decide (bits &&& (rmW (g i) ^^^ (-1)) = 0) = false from decide_eq_false c] at q
        refine Rq_iload_n dX9_modelsBy_8 rfl ?_
        refine Rq_aload_n dX9_modelsBy_9 rfl ?_
        refine Rq_get dX9_modelsBy_10 flX9_170 k0 rfl ?_
        refine Rq_icmp_ge_f 59 dX9_modelsBy_13 (by decide) (nI_ge (by omega) (by omega)) ?_
        refine Rq_aload_n dX9_modelsBy_16 rfl ?_
        refine Rq_get dX9_modelsBy_17 flX9_59 k0 rfl ?_
        refine Rq_iload_n dX9_modelsBy_20 rfl ?_
        refine Rq_iald i dX9_modelsBy_21 k2 (by omega) (by decide) rfl ?_
        refine Rq_istore [_, _, _, _, _] dX9_modelsBy_22 rfl rfl rfl ?_
        refine Rq_iload_n dX9_modelsBy_24 rfl ?_
        refine Rq_iload_n dX9_modelsBy_25 rfl ?_
        refine Rq_iload dX9_modelsBy_26 rfl ?_
        refine Rq_sipush (1023) dX9_modelsBy_28 (by decide) ?_
        refine Rq_iload dX9_modelsBy_31 rfl ?_
        refine Rq_iconst (-1) dX9_modelsBy_33 (by decide) ?_
        refine Rq_ixor dX9_modelsBy_34 ?_
        refine Rq_iand dX9_modelsBy_35 ?_
        refine Rq_bipush (10) dX9_modelsBy_36 (by decide) ?_
        refine Rq_ishl dX9_modelsBy_38 ?_
        refine Rq_ior dX9_modelsBy_39 ?_
        refine Rq_iconst (-1) dX9_modelsBy_40 (by decide) ?_
        refine Rq_ixor dX9_modelsBy_41 ?_
        refine Rq_iand dX9_modelsBy_42 ?_
        refine Rq_if_ne_t 50 dX9_modelsBy_43 (by decide) c ?_
        refine Rq_iconst (0) dX9_modelsBy_50 (by decide) ?_
        refine Rq_iadd dX9_modelsBy_51 ?_
        refine Rq_istore_n [_, _, _, _, _] dX9_modelsBy_52 rfl rfl rfl ?_
        refine Rq_iinc [_, _, _, _, _] (1) dX9_modelsBy_53 rfl (by decide) rfl rfl rfl ?_
        refine Rq_goto 8 dX9_modelsBy_56 (by decide) ?_
        refine Rq_dead [_, _, _, _, .retAddr 0] ⟨Or.inr rfl, Or.inr rfl, Or.inr rfl, Or.inr rfl, Or.inl rfl, trivial⟩ ?_
        rw [nI_1, show (0 : Int32) = nI 0 from rfl, nI_add]
        exact q
  refine Rq_iconst (0) dX9_modelsBy_4 (by decide) ?_
  refine Rq_istore_n [_, _, _, _, _] dX9_modelsBy_5 rfl rfl rfl ?_
  refine Rq_iconst (0) dX9_modelsBy_6 (by decide) ?_
  refine Rq_istore_n [_, _, _, _, _] dX9_modelsBy_7 rfl rfl rfl ?_
  exact loop (fb_ct (rMod S n) 1024) 0 (.int 0) (by omega)
theorem rp_models (d : Nat) (h0 : h[43]? = some (obM sm ln ic nm rm hf ht rt mm il sp rdm)) (h1 : h[44]? = some (aI 39 S)) (hn : S 0 = nI n) (hn16 : n ≤ 16) (x : RM h S n mm il) :
    Mq mX9_models (d + 3) [.ref 43] h (fun r h' => r = some (.int (nI (rBy S n 0))) ∧ Fr [43, 60] h h' ∧ ∃ mm' il', h'[43]? = some (obM sm ln ic nm rm hf ht rt mm' il' sp rdm) ∧ RM h' S n mm' il') := by
  refine Mq_of [_] (by decide +kernel) rfl rfl ?_
  refine Rq_aload_n dX9_models_0 rfl ?_
  refine Rq_iconst (0) dX9_models_1 (by decide) ?_
  refine Rq_callVq [_] dX9_models_2 clX9_179 rfl h0 (rp_modelsBy d 0 h0 h1 hn hn16 x) rfl rfl rfl (fun rv h3 hq => ?_)
  obtain ⟨rfl, hq⟩ := hq
  refine Rq_iret dX9_models_5 rfl ?_
  exact ⟨rfl, hq⟩
/-! sums over the models -/
def rPr (S : Nat → Int32) (a : Nat) : Nat → Int64
  | 0 => 1
  | v + 1 => rPr S a v * (S (19 + 2 * v + 1 - (if a.testBit v then 1 else 0))).toInt64
def rWc (S : Nat → Int32) (n : Nat) : Nat → Int64
  | 0 => 0
  | m + 1 => if rMod S n m then rWc S n m + rPr S m 10 else rWc S n m
theorem wix {a v : Nat} (ha : a < 1024) (hv : v < 10) : (19 : Int32) + 2 * nI v + 1 - (nI a >>> (nI v &&& 31) &&& 1) = nI (19 + 2 * v + 1 - (if a.testBit v then 1 else 0)) := by
  have e : nI a >>> (nI v &&& 31) &&& 1 = nI (if a.testBit v then 1 else 0) := by
    have e1 : nI a >>> (nI v &&& 31) = nI (a / 2 ^ v) := pk_shrN (by omega) _ v (by
      have : ∀ v : Nat, v < 10 → ((nI v &&& 31).toBitVec.smod 32).toNat = v := by decide
      exact this v hv)
    rw [e1, nI_m2 (Nat.lt_of_le_of_lt (Nat.div_le_self _ _) (by omega)), Nat.testBit_eq_decide_div_mod_eq]
    congr 1
    have : a / 2 ^ v % 2 < 2 := Nat.mod_lt _ (by decide)
    by_cases c : a / 2 ^ v % 2 = 1
    · rw [c]; rfl
    · have : a / 2 ^ v % 2 = 0 := by omega
      rw [this]; rfl
  rw [e]
  cases a.testBit v with
  | true =>
    have : ∀ v : Nat, v < 10 → (19 : Int32) + 2 * nI v + 1 - nI 1 = nI (19 + 2 * v + 1 - 1) := by decide
    exact this v hv
  | false =>
    have : ∀ v : Nat, v < 10 → (19 : Int32) + 2 * nI v + 1 - nI 0 = nI (19 + 2 * v + 1 - 0) := by decide
    exact this v hv
theorem wc_in (d : Nat) {a : Nat} {s : Int64} {Q : Option Value → Hp → Prop} (ha : a < 1024) (h0 : h[43]? = some (obM sm ln ic nm rm hf ht rt mm il sp rdm)) (h1 : h[44]? = some (aI 39 S)) (K : Rq mX9_weightedCount d 65 [.ref 43, .long s, .retAddr 0, .int (nI a), .long (rPr S a 10), .retAddr 0, .retAddr 0] [] h Q) : ∀ (j i : Nat), i + j = 10 → Rq mX9_weightedCount d 25 [.ref 43, .long s, .retAddr 0, .int (nI a), .long (rPr S a i), .retAddr 0, .int (nI i)] [] h Q := by
  intro j
  induction j with
  | zero =>
    intro i hi
    have e : i = 10 := by omega
    subst e
    refine Rq_iload dX9_weightedCount_25 rfl ?_
    refine Rq_bipush (10) dX9_weightedCount_27 (by decide) ?_
    refine Rq_icmp_ge_t 65 dX9_weightedCount_29 (by decide) (nI_le (a := 10) (b := 10) (Nat.le_refl _) (by decide)) ?_
    refine Rq_dead [_, _, _, _, _, _, .retAddr 0] ⟨Or.inr rfl, Or.inr rfl, Or.inr rfl, Or.inr rfl, Or.inr rfl, Or.inr rfl, Or.inl rfl, trivial⟩ ?_
    exact K
  | succ j ih =>
    intro i hi
    have hb : (19 + 2 * i + 1 - (if a.testBit i then 1 else 0)) < 39 := by split <;> omega
    refine Rq_iload dX9_weightedCount_25 rfl ?_
    refine Rq_bipush (10) dX9_weightedCount_27 (by decide) ?_
    refine Rq_icmp_ge_f 65 dX9_weightedCount_29 (by decide) (nI_ge (a := i) (b := 10) (by omega) (by decide)) ?_
    refine Rq_lload dX9_weightedCount_32 rfl ?_
    refine Rq_aload_n dX9_weightedCount_34 rfl ?_
    refine Rq_get dX9_weightedCount_35 flX9_7 h0 rfl ?_
    refine Rq_bipush (19) dX9_weightedCount_38 (by decide) ?_
    refine Rq_iconst (2) dX9_weightedCount_40 (by decide) ?_
    refine Rq_iload dX9_weightedCount_41 rfl ?_
    refine Rq_imul dX9_weightedCount_43 ?_
    refine Rq_iadd dX9_weightedCount_44 ?_
    refine Rq_iconst (1) dX9_weightedCount_45 (by decide) ?_
    refine Rq_iadd dX9_weightedCount_46 ?_
    refine Rq_iload_n dX9_weightedCount_47 rfl ?_
    refine Rq_iload dX9_weightedCount_48 rfl ?_
    refine Rq_ishr dX9_weightedCount_50 ?_
    refine Rq_iconst (1) dX9_weightedCount_51 (by decide) ?_
    refine Rq_iand dX9_weightedCount_52 ?_
    refine Rq_isub dX9_weightedCount_53 ?_
    refine Rq_iald (19 + 2 * i + 1 - (if a.testBit i then 1 else 0)) dX9_weightedCount_54 h1 hb (by decide) (wix ha (by omega)) ?_
    refine Rq_i2l dX9_weightedCount_55 ?_
    refine Rq_lmul dX9_weightedCount_56 ?_
    refine Rq_lstore [_, _, _, _, _, _, _] dX9_weightedCount_57 rfl rfl rfl ?_
    refine Rq_iinc [_, _, _, _, _, _, _] (1) dX9_weightedCount_59 rfl (by decide) rfl rfl rfl ?_
    refine Rq_goto 25 dX9_weightedCount_62 (by decide) ?_
    rw [nI_1]
    exact ih (i + 1) (by omega)
theorem rp_wcount (d : Nat) (h0 : h[43]? = some (obM sm ln ic nm rm hf ht rt mm il sp rdm)) (h1 : h[44]? = some (aI 39 S)) (hn : S 0 = nI n) (hn16 : n ≤ 16) : Mq mX9_weightedCount (d + 1) [.ref 43] h (fun r h' => r = some (.long (rWc S n 1024)) ∧ h' = h) := by
  have loop : ∀ (j i : Nat), i + j = 1024 → Rq mX9_weightedCount (d + 1) 4 [.ref 43, .long (rWc S n i), .retAddr 0, .int (nI i), .retAddr 0, .retAddr 0, .retAddr 0] [] h (fun r h' => r = some (.long (rWc S n 1024)) ∧ h' = h) := by
    intro j
    induction j with
    | zero =>
      intro i hi
      have e : i = 1024 := by omega
      subst e
      refine Rq_iload_n dX9_weightedCount_4 rfl ?_
      refine Rq_sipush (1023) dX9_weightedCount_5 (by decide) ?_
      refine Rq_icmp_gt_t 76 dX9_weightedCount_8 (by decide) (nI_lt (a := 1023) (b := 1024) (by decide) (by decide)) ?_
      refine Rq_lload_n dX9_weightedCount_76 rfl ?_
      refine Rq_lret dX9_weightedCount_77 rfl ?_
      exact ⟨rfl, rfl⟩
    | succ j ih =>
      intro i hi
      have im := rp_isModel d (a := i) (by omega) h0 h1 hn hn16
      have q := ih (i + 1) (by omega)
      unfold rWc at q
      cases c : rMod S n i with
      | false =>
        rw [c] at im
        rw [if_neg (by rw [c]; decide)] at q
        refine Rq_iload_n dX9_weightedCount_4 rfl ?_
        refine Rq_sipush (1023) dX9_weightedCount_5 (by decide) ?_
        refine Rq_icmp_gt_f 76 dX9_weightedCount_8 (by decide) (nI_nlt (a := 1023) (b := i) (by omega) (by decide)) ?_
        refine Rq_aload_n dX9_weightedCount_11 rfl ?_
        refine Rq_iload_n dX9_weightedCount_12 rfl ?_
        refine Rq_callV [_] dX9_weightedCount_13 clX9_173 rfl h0 im rfl rfl rfl ?_
        refine Rq_if_eq_t 70 dX9_weightedCount_16 (by decide) rfl ?_
        refine Rq_iinc [_, _, _, _, _, _, _] (1) dX9_weightedCount_70 rfl (by decide) rfl rfl rfl ?_
        refine Rq_goto 4 dX9_weightedCount_73 (by decide) ?_
        rw [nI_1]
        exact q
      | true =>
        rw [c] at im
        rw [if_pos c] at q
        refine Rq_iload_n dX9_weightedCount_4 rfl ?_
        refine Rq_sipush (1023) dX9_weightedCount_5 (by decide) ?_
        refine Rq_icmp_gt_f 76 dX9_weightedCount_8 (by decide) (nI_nlt (a := 1023) (b := i) (by omega) (by decide)) ?_
        refine Rq_aload_n dX9_weightedCount_11 rfl ?_
        refine Rq_iload_n dX9_weightedCount_12 rfl ?_
        refine Rq_callV [_] dX9_weightedCount_13 clX9_173 rfl h0 im rfl rfl rfl ?_
        refine Rq_if_eq_f 70 dX9_weightedCount_16 (by decide) (by decide) ?_
        refine Rq_lconst (1) dX9_weightedCount_19 (by decide) ?_
        refine Rq_lstore [_, _, _, _, _, _, _] dX9_weightedCount_20 rfl rfl rfl ?_
        refine Rq_iconst (0) dX9_weightedCount_22 (by decide) ?_
        refine Rq_istore [_, _, _, _, _, _, _] dX9_weightedCount_23 rfl rfl rfl ?_
        refine wc_in (d + 1) (by omega) h0 h1 ?_ 10 0 rfl
        refine Rq_lload_n dX9_weightedCount_65 rfl ?_
        refine Rq_lload dX9_weightedCount_66 rfl ?_
        refine Rq_ladd dX9_weightedCount_68 ?_
        refine Rq_lstore_n [_, _, _, _, _, _, _] dX9_weightedCount_69 rfl rfl rfl ?_
        refine Rq_iinc [_, _, _, _, _, _, _] (1) dX9_weightedCount_70 rfl (by decide) rfl rfl rfl ?_
        refine Rq_goto 4 dX9_weightedCount_73 (by decide) ?_
        refine Rq_dead [_, _, _, _, .retAddr 0, .retAddr 0, .retAddr 0] ⟨Or.inr rfl, Or.inr rfl, Or.inr rfl, Or.inr rfl, Or.inl rfl, Or.inl rfl, Or.inl rfl, trivial⟩ ?_
        rw [nI_1]
        exact q
  refine Mq_of [_, _, _, _, _, _, _] (by decide +kernel) rfl rfl ?_
  refine Rq_lconst (0) dX9_weightedCount_0 (by decide) ?_
  refine Rq_lstore_n [_, _, _, _, _, _, _] dX9_weightedCount_1 rfl rfl rfl ?_
  refine Rq_iconst (0) dX9_weightedCount_2 (by decide) ?_
  refine Rq_istore_n [_, _, _, _, _, _, _] dX9_weightedCount_3 rfl rfl rfl ?_
  exact loop 1024 0 rfl
def rIm (S : Nat → Int32) (n : Nat) (sg : Int32) : Nat → Int32
  | 0 => 1023
  | m + 1 => if rMod S n m then rIm S n sg m &&& (if sg = 1 then nI m else nI m ^^^ (-1)) else rIm S n sg m
theorem rp_impl (d : Nat) {sg : Int32} (hs : sg = 1 ∨ sg = -1) (h0 : h[43]? = some (obM sm ln ic nm rm hf ht rt mm il sp rdm)) (h1 : h[44]? = some (aI 39 S)) (hn : S 0 = nI n) (hn16 : n ≤ 16) : Mq mX9_implied (d + 1) [.ref 43, .int sg] h (fun r h' => r = some (.int (rIm S n sg 1024)) ∧ h' = h) := by
  have loop : ∀ (j i : Nat), i + j = 1024 → Rq mX9_implied (d + 1) 23 [.ref 43, .int sg, .int (rIm S n sg i), .int (nI i)] [] h (fun r h' => r = some (.int (rIm S n sg 1024)) ∧ h' = h) := by
    intro j
    induction j with
    | zero =>
      intro i hi
      have e : i = 1024 := by omega
      subst e
      refine Rq_iload_n dX9_implied_23 rfl ?_
      refine Rq_sipush (1023) dX9_implied_24 (by decide) ?_
      refine Rq_icmp_gt_t 59 dX9_implied_27 (by decide) (nI_lt (a := 1023) (b := 1024) (by decide) (by decide)) ?_
      refine Rq_iload_n dX9_implied_59 rfl ?_
      refine Rq_iret dX9_implied_60 rfl ?_
      exact ⟨rfl, rfl⟩
    | succ j ih =>
      intro i hi
      have im := rp_isModel d (a := i) (by omega) h0 h1 hn hn16
      have q := ih (i + 1) (by omega)
      unfold rIm at q
      cases c : rMod S n i with
      | false =>
        rw [c] at im
        rw [if_neg (by rw [c]; decide)] at q
        refine Rq_iload_n dX9_implied_23 rfl ?_
        refine Rq_sipush (1023) dX9_implied_24 (by decide) ?_
        refine Rq_icmp_gt_f 59 dX9_implied_27 (by decide) (nI_nlt (a := 1023) (b := i) (by omega) (by decide)) ?_
        refine Rq_aload_n dX9_implied_30 rfl ?_
        refine Rq_iload_n dX9_implied_31 rfl ?_
        refine Rq_callV [_] dX9_implied_32 clX9_173 rfl h0 im rfl rfl rfl ?_
        refine Rq_if_eq_t 53 dX9_implied_35 (by decide) rfl ?_
        refine Rq_iinc [_, _, _, _] (1) dX9_implied_53 rfl (by decide) rfl rfl rfl ?_
        refine Rq_goto 23 dX9_implied_56 (by decide) ?_
        rw [nI_1]
        exact q
      | true =>
        rw [c] at im
        rw [if_pos c] at q
        rcases hs with rfl | rfl
        · rw [if_pos rfl] at q
          refine Rq_iload_n dX9_implied_23 rfl ?_
          refine Rq_sipush (1023) dX9_implied_24 (by decide) ?_
          refine Rq_icmp_gt_f 59 dX9_implied_27 (by decide) (nI_nlt (a := 1023) (b := i) (by omega) (by decide)) ?_
          refine Rq_aload_n dX9_implied_30 rfl ?_
          refine Rq_iload_n dX9_implied_31 rfl ?_
          refine Rq_callV [_] dX9_implied_32 clX9_173 rfl h0 im rfl rfl rfl ?_
          refine Rq_if_eq_f 53 dX9_implied_35 (by decide) (by decide) ?_
          refine Rq_iload_n dX9_implied_38 rfl ?_
          refine Rq_iload_n dX9_implied_39 rfl ?_
          refine Rq_iconst (1) dX9_implied_40 (by decide) ?_
          refine Rq_icmp_ne_f 48 dX9_implied_41 (by decide) rfl ?_
          refine Rq_iload_n dX9_implied_44 rfl ?_
          refine Rq_goto 51 dX9_implied_45 (by decide) ?_
          refine Rq_iand dX9_implied_51 ?_
          refine Rq_istore_n [_, _, _, _] dX9_implied_52 rfl rfl rfl ?_
          refine Rq_iinc [_, _, _, _] (1) dX9_implied_53 rfl (by decide) rfl rfl rfl ?_
          refine Rq_goto 23 dX9_implied_56 (by decide) ?_
          rw [nI_1]
          exact q
        · rw [if_neg (by decide)] at q
          refine Rq_iload_n dX9_implied_23 rfl ?_
          refine Rq_sipush (1023) dX9_implied_24 (by decide) ?_
          refine Rq_icmp_gt_f 59 dX9_implied_27 (by decide) (nI_nlt (a := 1023) (b := i) (by omega) (by decide)) ?_
          refine Rq_aload_n dX9_implied_30 rfl ?_
          refine Rq_iload_n dX9_implied_31 rfl ?_
          refine Rq_callV [_] dX9_implied_32 clX9_173 rfl h0 im rfl rfl rfl ?_
          refine Rq_if_eq_f 53 dX9_implied_35 (by decide) (by decide) ?_
          refine Rq_iload_n dX9_implied_38 rfl ?_
          refine Rq_iload_n dX9_implied_39 rfl ?_
          refine Rq_iconst (1) dX9_implied_40 (by decide) ?_
          refine Rq_icmp_ne_t 48 dX9_implied_41 (by decide) (by decide) ?_
          refine Rq_iload_n dX9_implied_48 rfl ?_
          refine Rq_iconst (-1) dX9_implied_49 (by decide) ?_
          refine Rq_ixor dX9_implied_50 ?_
          refine Rq_iand dX9_implied_51 ?_
          refine Rq_istore_n [_, _, _, _] dX9_implied_52 rfl rfl rfl ?_
          refine Rq_iinc [_, _, _, _] (1) dX9_implied_53 rfl (by decide) rfl rfl rfl ?_
          refine Rq_goto 23 dX9_implied_56 (by decide) ?_
          rw [nI_1]
          exact q
  refine Mq_of [_, _, _, _] (by decide +kernel) rfl rfl ?_
  rcases hs with rfl | rfl
  · refine Rq_iload_n dX9_implied_0 rfl ?_
    refine Rq_iconst (1) dX9_implied_1 (by decide) ?_
    refine Rq_icmp_eq_t 17 dX9_implied_2 (by decide) rfl ?_
    refine Rq_sipush (1023) dX9_implied_17 (by decide) ?_
    refine Rq_istore_n [_, _, _, _] dX9_implied_20 rfl rfl rfl ?_
    refine Rq_iconst (0) dX9_implied_21 (by decide) ?_
    refine Rq_istore_n [_, _, _, _] dX9_implied_22 rfl rfl rfl ?_
    exact loop 1024 0 rfl
  · refine Rq_iload_n dX9_implied_0 rfl ?_
    refine Rq_iconst (1) dX9_implied_1 (by decide) ?_
    refine Rq_icmp_eq_f 17 dX9_implied_2 (by decide) (by decide) ?_
    refine Rq_iload_n dX9_implied_5 rfl ?_
    refine Rq_iconst (-1) dX9_implied_6 (by decide) ?_
    refine Rq_icmp_eq_t 17 dX9_implied_7 (by decide) rfl ?_
    refine Rq_sipush (1023) dX9_implied_17 (by decide) ?_
    refine Rq_istore_n [_, _, _, _] dX9_implied_20 rfl rfl rfl ?_
    refine Rq_iconst (0) dX9_implied_21 (by decide) ?_
    refine Rq_istore_n [_, _, _, _] dX9_implied_22 rfl rfl rfl ?_
    exact loop 1024 0 rfl
def rLs (S : Nat → Int32) (n : Nat) : Nat → Nat → Int32
  | 0, _ => -1
  | k + 1, m => if rMod S n m then nI m else rLs S n k (m + 1)
theorem rp_least (d : Nat) (h0 : h[43]? = some (obM sm ln ic nm rm hf ht rt mm il sp rdm)) (h1 : h[44]? = some (aI 39 S)) (hn : S 0 = nI n) (hn16 : n ≤ 16) : Mq mX9_leastModel (d + 1) [.ref 43] h (fun r h' => r = some (.int (rLs S n 1024 0)) ∧ h' = h) := by
  have loop : ∀ (j i : Nat), i + j = 1024 → Rq mX9_leastModel (d + 1) 2 [.ref 43, .int (nI i)] [] h (fun r h' => r = some (.int (rLs S n j i)) ∧ h' = h) := by
    intro j
    induction j with
    | zero =>
      intro i hi
      have e : i = 1024 := by omega
      subst e
      refine Rq_iload_n dX9_leastModel_2 rfl ?_
      refine Rq_sipush (1023) dX9_leastModel_3 (by decide) ?_
      refine Rq_icmp_gt_t 25 dX9_leastModel_6 (by decide) (nI_lt (a := 1023) (b := 1024) (by decide) (by decide)) ?_
      refine Rq_iconst (-1) dX9_leastModel_25 (by decide) ?_
      refine Rq_iret dX9_leastModel_26 rfl ?_
      exact ⟨rfl, rfl⟩
    | succ j ih =>
      intro i hi
      have im := rp_isModel d (a := i) (by omega) h0 h1 hn hn16
      have q := ih (i + 1) (by omega)
      unfold rLs
      cases c : rMod S n i with
      | false =>
        rw [c] at im
        rw [if_neg (by decide)]
        refine Rq_iload_n dX9_leastModel_2 rfl ?_
        refine Rq_sipush (1023) dX9_leastModel_3 (by decide) ?_
        refine Rq_icmp_gt_f 25 dX9_leastModel_6 (by decide) (nI_nlt (a := 1023) (b := i) (by omega) (by decide)) ?_
        refine Rq_aload_n dX9_leastModel_9 rfl ?_
        refine Rq_iload_n dX9_leastModel_10 rfl ?_
        refine Rq_callV [_] dX9_leastModel_11 clX9_173 rfl h0 im rfl rfl rfl ?_
        refine Rq_if_eq_t 19 dX9_leastModel_14 (by decide) rfl ?_
        refine Rq_iinc [_, _] (1) dX9_leastModel_19 rfl (by decide) rfl rfl rfl ?_
        refine Rq_goto 2 dX9_leastModel_22 (by decide) ?_
        rw [nI_1]
        exact q
      | true =>
        rw [c] at im
        rw [if_pos rfl]
        refine Rq_iload_n dX9_leastModel_2 rfl ?_
        refine Rq_sipush (1023) dX9_leastModel_3 (by decide) ?_
        refine Rq_icmp_gt_f 25 dX9_leastModel_6 (by decide) (nI_nlt (a := 1023) (b := i) (by omega) (by decide)) ?_
        refine Rq_aload_n dX9_leastModel_9 rfl ?_
        refine Rq_iload_n dX9_leastModel_10 rfl ?_
        refine Rq_callV [_] dX9_leastModel_11 clX9_173 rfl h0 im rfl rfl rfl ?_
        refine Rq_if_eq_f 19 dX9_leastModel_14 (by decide) (by decide) ?_
        refine Rq_iload_n dX9_leastModel_17 rfl ?_
        refine Rq_iret dX9_leastModel_18 rfl ?_
        exact ⟨rfl, rfl⟩
  refine Mq_of [_, _] (by decide +kernel) rfl rfl ?_
  refine Rq_iconst (0) dX9_leastModel_0 (by decide) ?_
  refine Rq_istore_n [_, _] dX9_leastModel_1 rfl rfl rfl ?_
  exact loop 1024 0 rfl
end RF
