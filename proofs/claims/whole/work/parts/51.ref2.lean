/-! the reference: its object; err, saves, isClause, assumed -/
abbrev obM (sm ln ic nm rm hf ht rt mm il sp rdm : Int32) : va_E := .inr (9, [.ref 44, .ref 45, .int sm, .ref 46, .ref 47, .int ln, .int ic, .ref 48, .ref 49, .ref 50, .ref 51, .ref 52, .ref 53, .ref 54, .int nm, .int rm, .int hf, .int ht, .int rt, .ref 55, .ref 56, .ref 57, .ref 58, .ref 59, .ref 60, .int mm, .int il, .int sp, .ref 61, .int rdm])
abbrev mC : List Nat := [43, 44, 45, 46, 47, 48, 49, 50, 51, 52, 53, 54, 55, 56, 57, 58, 59, 60, 61]
theorem ixm (c m k : Nat) : nI c * nI m + nI k = nI (c * m + k) := by rw [pk_mul, nI_add]
theorem hset_same {h : Hp} {k : Nat} {e : va_E} (hk : h[k]? = some e) : h.set k e = h := by
  apply List.ext_getElem?
  intro j
  by_cases c : k = j
  · subst c; rw [List.getElem?_set, if_pos rfl, if_pos (List.getElem?_eq_some_iff.mp hk).1, hk]
  · rw [List.getElem?_set_ne c]
section RF
variable {h : Hp} {sm ln ic nm rm hf ht rt mm il sp rdm : Int32}
theorem rp_err (d : Nat) {er : Nat → Int32} (j : Nat) (hj : j < 4) (x : Int32) (hx : x = -2 - nI j) (h0 : h[43]? = some (obM sm ln ic nm rm hf ht rt mm il sp rdm)) (h1 : h[46]? = some (aI 4 er)) : Mx mX9_err d [.ref 43, .int x] h (some (.int x)) (h.set 46 (aI 4 (upd er j (er j + 1)))) := by
  have e : -2 - x = nI j := by
    have hj' : j = 0 ∨ j = 1 ∨ j = 2 ∨ j = 3 := by omega
    rcases hj' with e | e | e | e <;> subst e <;> subst hx <;> decide
  refine Mx_of [_, _] (by decide +kernel) rfl rfl ?_
  refine Rx_aload_n dX9_err_0 rfl ?_
  refine Rx_get dX9_err_1 flX9_16 h0 rfl ?_
  refine Rx_bipush (-2) dX9_err_4 (by decide) ?_
  refine Rx_iload_n dX9_err_6 rfl ?_
  refine Rx_isub dX9_err_7 ?_
  rw [e]
  refine Rx_dup2 dX9_err_8 rfl rfl ?_
  refine Rx_iald j dX9_err_9 h1 hj (by decide) rfl ?_
  refine Rx_iconst (1) dX9_err_10 (by decide) ?_
  refine Rx_iadd dX9_err_11 ?_
  refine Rx_iast j dX9_err_12 h1 hj (by decide) rfl ?_
  refine Rx_iload_n dX9_err_13 rfl ?_
  exact Rx_iret dX9_err_14 rfl
theorem rp_assumed (d : Nat) {S : Nat → Int32} (h0 : h[43]? = some (obM sm ln ic nm rm hf ht rt mm il sp rdm)) (h1 : h[44]? = some (aI 39 S)) : Mx mX9_assumed d [.ref 43] h (some (.int (S 17 ||| S 18))) h := by
  refine Mx_of [_] (by decide +kernel) rfl rfl ?_
  refine Rx_aload_n dX9_assumed_0 rfl ?_
  refine Rx_get dX9_assumed_1 flX9_7 h0 rfl ?_
  refine Rx_bipush (17) dX9_assumed_4 (by decide) ?_
  refine Rx_iald 17 dX9_assumed_6 h1 (by decide) (by decide) rfl ?_
  refine Rx_aload_n dX9_assumed_7 rfl ?_
  refine Rx_get dX9_assumed_8 flX9_7 h0 rfl ?_
  refine Rx_bipush (18) dX9_assumed_11 (by decide) ?_
  refine Rx_iald 18 dX9_assumed_13 h1 (by decide) (by decide) rfl ?_
  refine Rx_ior dX9_assumed_14 ?_
  exact Rx_iret dX9_assumed_15 rfl
theorem lt_pred {n : Nat} (hn : n ≤ 16) (i : Int32) : i ≤ nI n - 1 ↔ i < nI n := by
  have e : (nI n - 1).toInt = (n : Int) - 1 := by
    have : ∀ n : Nat, n < 17 → (nI n - 1).toInt = (n : Int) - 1 := by decide
    exact this n (by omega)
  rw [Int32.le_iff_toInt_le, Int32.lt_iff_toInt_lt, e, nI_toInt (by omega)]
  omega
theorem rp_isClause_t (d : Nat) {S : Nat → Int32} {n : Nat} {i : Int32} (h0 : h[43]? = some (obM sm ln ic nm rm hf ht rt mm il sp rdm)) (h1 : h[44]? = some (aI 39 S)) (hS : S 0 = nI n) (hn : n ≤ 16) (h2 : 0 ≤ i) (h3 : i < nI n) : Mx mX9_isClause (d + 1) [.ref 43, .int i] h (some (.int 1)) h := by
  refine Mx_of [_, _] (by decide +kernel) rfl rfl ?_
  refine Rx_iload_n dX9_isClause_0 rfl ?_
  refine Rx_i2l dX9_isClause_1 ?_
  refine Rx_lconst (0) dX9_isClause_2 (by decide) ?_
  refine Rx_aload_n dX9_isClause_3 rfl ?_
  refine Rx_get dX9_isClause_4 flX9_7 h0 rfl ?_
  refine Rx_iconst (0) dX9_isClause_7 (by decide) ?_
  refine Rx_iald 0 dX9_isClause_8 h1 (by decide) (by decide) rfl ?_
  refine Rx_iconst (1) dX9_isClause_9 (by decide) ?_
  refine Rx_isub dX9_isClause_10 ?_
  refine Rx_i2l dX9_isClause_11 ?_
  refine Rx_callS [_, _, _] dX9_isClause_12 clX9_69 (rp_in_t d h (show (0 : Int32).toInt64 ≤ _ from le64.mpr h2) (le64.mpr (by rw [hS]; exact (lt_pred hn i).mpr h3))) rfl rfl rfl ?_
  exact Rx_zret dX9_isClause_15 rfl (by decide)
theorem rp_isClause_f (d : Nat) {S : Nat → Int32} {n : Nat} {i : Int32} (h0 : h[43]? = some (obM sm ln ic nm rm hf ht rt mm il sp rdm)) (h1 : h[44]? = some (aI 39 S)) (hS : S 0 = nI n) (hn : n ≤ 16) (h2 : ¬ (0 ≤ i ∧ i < nI n)) : Mx mX9_isClause (d + 1) [.ref 43, .int i] h (some (.int 0)) h := by
  refine Mx_of [_, _] (by decide +kernel) rfl rfl ?_
  refine Rx_iload_n dX9_isClause_0 rfl ?_
  refine Rx_i2l dX9_isClause_1 ?_
  refine Rx_lconst (0) dX9_isClause_2 (by decide) ?_
  refine Rx_aload_n dX9_isClause_3 rfl ?_
  refine Rx_get dX9_isClause_4 flX9_7 h0 rfl ?_
  refine Rx_iconst (0) dX9_isClause_7 (by decide) ?_
  refine Rx_iald 0 dX9_isClause_8 h1 (by decide) (by decide) rfl ?_
  refine Rx_iconst (1) dX9_isClause_9 (by decide) ?_
  refine Rx_isub dX9_isClause_10 ?_
  refine Rx_i2l dX9_isClause_11 ?_
  refine Rx_callS [_, _, _] dX9_isClause_12 clX9_69 (rp_in_f d h (fun q => h2 ⟨le64.mp (show (0 : Int32).toInt64 ≤ _ from q.1), (lt_pred hn i).mp (by rw [← hS]; exact le64.mp q.2)⟩)) rfl rfl rfl ?_
  exact Rx_zret dX9_isClause_15 rfl (by decide)
/-- the saved states after one more -/
def svV (sm : Nat) (V S : Nat → Int32) : Nat → Int32 := fb_put (if sm = 5 then fb_put V (fun k => V (39 + k)) 0 156 else V) S (39 * min sm 4) 39
theorem saves2 (d : Nat) {S V : Nat → Int32} {m : Nat} (hm : m ≤ 4) (h0 : h[43]? = some (obM (nI m) ln ic nm rm hf ht rt mm il sp rdm)) (h1 : h[44]? = some (aI 39 S)) (h2 : h[45]? = some (aI 195 V)) : Rx mX9_saves d 48 [.ref 43, .retAddr 0] [] h none ((h.set 45 (aI 195 (fb_put V S (39 * m) 39))).set 43 (obM (nI (m + 1)) ln 0 nm rm hf ht rt mm 0 sp rdm)) := by
  have loop : ∀ (j i : Nat), i + j = 39 → Rx mX9_saves d 50 [.ref 43, .int (nI i)] [] (h.set 45 (aI 195 (fb_put V S (39 * m) i))) none ((h.set 45 (aI 195 (fb_put V S (39 * m) 39))).set 43 (obM (nI (m + 1)) ln 0 nm rm hf ht rt mm 0 sp rdm)) := by
    intro j
    induction j with
    | zero =>
      intro i hi
      have e : i = 39 := by omega
      subst e
      have a0 := hNs (e' := aI 195 (fb_put V S (39 * m) 39)) (by decide : (45 : Nat) ≠ 43) h0
      refine Rx_iload_n dX9_saves_50 rfl ?_
      refine Rx_bipush (39) dX9_saves_51 (by decide) ?_
      refine Rx_icmp_ge_t 82 dX9_saves_53 (by decide) (nI_le (a := 39) (b := 39) (Nat.le_refl _) (by decide)) ?_
      refine Rx_aload_n dX9_saves_82 rfl ?_
      refine Rx_dup dX9_saves_83 rfl ?_
      refine Rx_get dX9_saves_84 flX9_73 a0 rfl ?_
      refine Rx_iconst (1) dX9_saves_87 (by decide) ?_
      refine Rx_iadd dX9_saves_88 ?_
      refine Rx_put [_, _, _, _, _, _, _, _, _, _, _, _, _, _, _, _, _, _, _, _, _, _, _, _, _, _, _, _, _, _] dX9_saves_89 fpX9_73 a0 rfl (okv_i _) rfl ?_
      rw [nI_1]
      have b0 := hS (obM (nI (m + 1)) ln ic nm rm hf ht rt mm il sp rdm) a0
      refine Rx_aload_n dX9_saves_92 rfl ?_
      refine Rx_iconst (0) dX9_saves_93 (by decide) ?_
      refine Rx_put [_, _, _, _, _, _, _, _, _, _, _, _, _, _, _, _, _, _, _, _, _, _, _, _, _, _, _, _, _, _] dX9_saves_94 fpX9_77 b0 rfl okv_0 rfl ?_
      have c0 := hS (obM (nI (m + 1)) ln 0 nm rm hf ht rt mm il sp rdm) b0
      rw [List.set_set]
      have c1 := hS (obM (nI (m + 1)) ln 0 nm rm hf ht rt mm il sp rdm) a0
      refine Rx_aload_n dX9_saves_97 rfl ?_
      refine Rx_iconst (0) dX9_saves_98 (by decide) ?_
      refine Rx_put [_, _, _, _, _, _, _, _, _, _, _, _, _, _, _, _, _, _, _, _, _, _, _, _, _, _, _, _, _, _] dX9_saves_99 fpX9_81 c1 rfl okv_0 rfl ?_
      rw [List.set_set]
      exact Rx_vret dX9_saves_102 rfl
    | succ j ih =>
      intro i hi
      have a0 := hNs (e' := aI 195 (fb_put V S (39 * m) i)) (by decide : (45 : Nat) ≠ 43) h0
      have a1 := hNs (e' := aI 195 (fb_put V S (39 * m) i)) (by decide : (45 : Nat) ≠ 44) h1
      have a2 := hS (aI 195 (fb_put V S (39 * m) i)) h2
      refine Rx_iload_n dX9_saves_50 rfl ?_
      refine Rx_bipush (39) dX9_saves_51 (by decide) ?_
      refine Rx_icmp_ge_f 82 dX9_saves_53 (by decide) (nI_ge (a := i) (b := 39) (by omega) (by decide)) ?_
      refine Rx_aload_n dX9_saves_56 rfl ?_
      refine Rx_get dX9_saves_57 flX9_13 a0 rfl ?_
      refine Rx_bipush (39) dX9_saves_60 (by decide) ?_
      refine Rx_aload_n dX9_saves_62 rfl ?_
      refine Rx_get dX9_saves_63 flX9_73 a0 rfl ?_
      refine Rx_imul dX9_saves_66 ?_
      refine Rx_iload_n dX9_saves_67 rfl ?_
      refine Rx_iadd dX9_saves_68 ?_
      refine Rx_aload_n dX9_saves_69 rfl ?_
      refine Rx_get dX9_saves_70 flX9_7 a0 rfl ?_
      refine Rx_iload_n dX9_saves_73 rfl ?_
      refine Rx_iald i dX9_saves_74 a1 (by omega) (by decide) rfl ?_
      refine Rx_iast (39 * m + i) dX9_saves_75 a2 (by omega) (by decide) (ixm 39 m i) ?_
      rw [List.set_set, fb_put_succ]
      refine Rx_iinc [_, _] (1) dX9_saves_76 rfl (by decide) rfl rfl rfl ?_
      refine Rx_goto 50 dX9_saves_79 (by decide) ?_
      rw [nI_1]
      exact ih (i + 1) (by omega)
  refine Rx_iconst (0) dX9_saves_48 (by decide) ?_
  refine Rx_istore_n [_, _] dX9_saves_49 rfl rfl rfl ?_
  have := loop 39 0 rfl
  rw [fb_put_0] at this
  rw [hset_same h2] at this
  exact this
theorem rp_saves (d : Nat) {S V : Nat → Int32} {m : Nat} (hm : m ≤ 5) (h0 : h[43]? = some (obM (nI m) ln ic nm rm hf ht rt mm il sp rdm)) (h1 : h[44]? = some (aI 39 S)) (h2 : h[45]? = some (aI 195 V)) : Mx mX9_saves d [.ref 43] h none ((h.set 45 (aI 195 (svV m V S))).set 43 (obM (nI (min m 4 + 1)) ln 0 nm rm hf ht rt mm 0 sp rdm)) := by
  refine Mx_of [_, _] (by decide +kernel) rfl rfl ?_
  by_cases c : m = 5
  · subst c
    have loop : ∀ (j i : Nat), i + j = 156 → Rx mX9_saves d 10 [.ref 43, .int (nI i)] [] (h.set 45 (aI 195 (fb_put V (fun k => V (39 + k)) 0 i))) none ((h.set 45 (aI 195 (svV 5 V S))).set 43 (obM (nI (min 5 4 + 1)) ln 0 nm rm hf ht rt mm 0 sp rdm)) := by
      intro j
      induction j with
      | zero =>
        intro i hi
        have e : i = 156 := by omega
        subst e
        have a0 := hNs (e' := aI 195 (fb_put V (fun k => V (39 + k)) 0 156)) (by decide : (45 : Nat) ≠ 43) h0
        refine Rx_iload_n dX9_saves_10 rfl ?_
        refine Rx_sipush (156) dX9_saves_11 (by decide) ?_
        refine Rx_icmp_ge_t 38 dX9_saves_14 (by decide) (nI_le (a := 156) (b := 156) (Nat.le_refl _) (by decide)) ?_
        refine Rx_aload_n dX9_saves_38 rfl ?_
        refine Rx_dup dX9_saves_39 rfl ?_
        refine Rx_get dX9_saves_40 flX9_73 a0 rfl ?_
        refine Rx_iconst (1) dX9_saves_43 (by decide) ?_
        refine Rx_isub dX9_saves_44 ?_
        refine Rx_put [_, _, _, _, _, _, _, _, _, _, _, _, _, _, _, _, _, _, _, _, _, _, _, _, _, _, _, _, _, _] dX9_saves_45 fpX9_73 a0 rfl (okv_i _) rfl ?_
        refine Rx_dead [_, .retAddr 0] ⟨Or.inr rfl, Or.inl rfl, trivial⟩ ?_
        have k0 := hS (obM (nI 4) ln ic nm rm hf ht rt mm il sp rdm) a0
        have k1 := hNs (e' := obM (nI 4) ln ic nm rm hf ht rt mm il sp rdm) (by decide : (43 : Nat) ≠ 44) (hNs (e' := aI 195 (fb_put V (fun k => V (39 + k)) 0 156)) (by decide : (45 : Nat) ≠ 44) h1)
        have k2 := hNs (e' := obM (nI 4) ln ic nm rm hf ht rt mm il sp rdm) (by decide : (43 : Nat) ≠ 45) (hS (aI 195 (fb_put V (fun k => V (39 + k)) 0 156)) h2)
        have q := saves2 d (m := 4) (by decide) k0 k1 k2
        rw [List.set_comm (i := 43) (j := 45) _ _ (by decide), List.set_set, List.set_set] at q
        exact q
      | succ j ih =>
        intro i hi
        have a0 := hNs (e' := aI 195 (fb_put V (fun k => V (39 + k)) 0 i)) (by decide : (45 : Nat) ≠ 43) h0
        have a2 := hS (aI 195 (fb_put V (fun k => V (39 + k)) 0 i)) h2
        have e3 : fb_put V (fun k => V (39 + k)) 0 i (39 + i) = V (39 + i) := fb_put_out (by omega)
        refine Rx_iload_n dX9_saves_10 rfl ?_
        refine Rx_sipush (156) dX9_saves_11 (by decide) ?_
        refine Rx_icmp_ge_f 38 dX9_saves_14 (by decide) (nI_ge (a := i) (b := 156) (by omega) (by decide)) ?_
        refine Rx_aload_n dX9_saves_17 rfl ?_
        refine Rx_get dX9_saves_18 flX9_13 a0 rfl ?_
        refine Rx_iload_n dX9_saves_21 rfl ?_
        refine Rx_aload_n dX9_saves_22 rfl ?_
        refine Rx_get dX9_saves_23 flX9_13 a0 rfl ?_
        refine Rx_bipush (39) dX9_saves_26 (by decide) ?_
        refine Rx_iload_n dX9_saves_28 rfl ?_
        refine Rx_iadd dX9_saves_29 ?_
        refine Rx_iald (39 + i) dX9_saves_30 a2 (by omega) (by decide) (show (39 : Int32) + nI i = nI (39 + i) from nI_add 39 i) ?_
        refine Rx_iast i dX9_saves_31 a2 (by omega) (by decide) rfl ?_
        rw [List.set_set, e3]
        have q := fb_put_succ V (fun k => V (39 + k)) 0 i
        rw [Nat.zero_add] at q
        rw [q]
        refine Rx_iinc [_, _] (1) dX9_saves_32 rfl (by decide) rfl rfl rfl ?_
        refine Rx_goto 10 dX9_saves_35 (by decide) ?_
        rw [nI_1]
        exact ih (i + 1) (by omega)
    refine Rx_aload_n dX9_saves_0 rfl ?_
    refine Rx_get dX9_saves_1 flX9_73 h0 rfl ?_
    refine Rx_iconst (5) dX9_saves_4 (by decide) ?_
    refine Rx_icmp_ne_f 48 dX9_saves_5 (by decide) rfl ?_
    refine Rx_iconst (0) dX9_saves_8 (by decide) ?_
    refine Rx_istore_n [_, _] dX9_saves_9 rfl rfl rfl ?_
    have := loop 156 0 rfl
    rw [fb_put_0, hset_same h2] at this
    exact this
  · refine Rx_aload_n dX9_saves_0 rfl ?_
    refine Rx_get dX9_saves_1 flX9_73 h0 rfl ?_
    refine Rx_iconst (5) dX9_saves_4 (by decide) ?_
    refine Rx_icmp_ne_t 48 dX9_saves_5 (by decide) (fun z => c ((nI_eq (b := 5) (by omega) (by decide)).mp z)) ?_
    have := saves2 d (m := m) (by omega) h0 h1 h2
    unfold svV
    rw [if_neg c, show min m 4 = m by omega]
    exact this
end RF
