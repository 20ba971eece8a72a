/-! the reference's graph: puts, sets -/
def insR (l : List Int32) (c : Int32) : List Int32 := if c ∈ l then l else l.take (insP l c l.length) ++ c :: l.drop (insP l c l.length)
/-- the row of a level -/
def Lv (W Mn : Nat → Int32) (L : Nat) (l : List Int32) : Prop := Mn L = nI l.length ∧ l.length ≤ 16 ∧ rw W (16 * L) l.length = l
theorem Lv.keep {W Mn W' Mn' : Nat → Int32} {L : Nat} {l : List Int32} (x : Lv W Mn L l) (h1 : Mn' L = Mn L) (h2 : ∀ k, 16 * L ≤ k → k < 16 * L + 16 → W' k = W k) : Lv W' Mn' L l := ⟨h1.trans x.1, x.2.1, (rw_cong (fun j hj => h2 _ (by omega) (by have := x.2.1; omega))).trans x.2.2⟩
theorem Lv.at {W Mn : Nat → Int32} {L : Nat} {l : List Int32} (x : Lv W Mn L l) {j : Nat} (hj : j < l.length) : W (16 * L + j) = l.getD j 0 := by
  rw [← rw_getD (f := W) (b := 16 * L) hj, x.2.2]
theorem insR_len {l : List Int32} {c : Int32} : (insR l c).length ≤ l.length + 1 := by
  unfold insR
  split
  · omega
  · rw [List.length_append, List.length_cons, List.length_take, List.length_drop]
    omega
section RF
variable {h : Hp} {sm ln ic nm rm hf ht rt mm il sp rdm : Int32} {W Mn : Nat → Int32}
/-- what a change of one level's row leaves -/
def lvP (h : Hp) (W Mn : Nat → Int32) (L : Nat) (l : List Int32) (r : Option Value) (h' : Hp) : Prop := r = none ∧ Fr [55, 56] h h' ∧ ∃ W' Mn', h'[55]? = some (aI 416 W') ∧ h'[56]? = some (aI 26 Mn') ∧ Lv W' Mn' L l ∧ (∀ k, k < 16 * L ∨ 16 * L + 16 ≤ k → W' k = W k) ∧ ∀ k, k ≠ L → Mn' k = Mn k
theorem puts_shift (d : Nat) {L : Nat} {l : List Int32} {c : Int32} (hL : L < 26) (hl : l.length < 16) (hc : c ∉ l) (k0 : h[43]? = some (obM sm ln ic nm rm hf ht rt mm il sp rdm)) (k1 : h[55]? = some (aI 416 W)) (k2 : h[56]? = some (aI 26 Mn)) (lv : Lv W Mn L l) : ∀ i, i ≤ l.length → insP l c l.length = insP l c i →
    Rq mX9_puts d 46 [.ref 43, .int (nI L), .int c, .int (nI (16 * L + i)), .int (nI (16 * L)), .retAddr 0] [] (h.set 55 (aI 416 (shf W (16 * L) 0 l.length i))) (lvP h W Mn L (insR l c)) := by
  have fin : ∀ i, i ≤ l.length → insP l c l.length = i → Rq mX9_puts d 84 [.ref 43, .int (nI L), .int c, .int (nI (16 * L + i)), .int (nI (16 * L)), .retAddr 0] [] (h.set 55 (aI 416 (shf W (16 * L) 0 l.length i))) (lvP h W Mn L (insR l c)) := by
    intro i hi e
    have a0 := hNs (e' := aI 416 (shf W (16 * L) 0 l.length i)) (by decide : (55 : Nat) ≠ 43) k0
    have a1 := hS (aI 416 (shf W (16 * L) 0 l.length i)) k1
    have a2 := hNs (e' := aI 416 (shf W (16 * L) 0 l.length i)) (by decide : (55 : Nat) ≠ 56) k2
    refine Rq_aload_n dX9_puts_84 rfl ?_
    refine Rq_get dX9_puts_85 flX9_44 a0 rfl ?_
    refine Rq_iload_n dX9_puts_88 rfl ?_
    refine Rq_iload_n dX9_puts_89 rfl ?_
    refine Rq_iast (16 * L + i) dX9_puts_90 a1 (by omega) (by decide) rfl ?_
    rw [List.set_set]
    have b0 := hNs (e' := aI 416 (upd (shf W (16 * L) 0 l.length i) (16 * L + i) c)) (by decide : (55 : Nat) ≠ 43) k0
    have b2 := hNs (e' := aI 416 (upd (shf W (16 * L) 0 l.length i) (16 * L + i) c)) (by decide : (55 : Nat) ≠ 56) k2
    refine Rq_aload_n dX9_puts_91 rfl ?_
    refine Rq_get dX9_puts_92 flX9_47 b0 rfl ?_
    refine Rq_iload_n dX9_puts_95 rfl ?_
    refine Rq_dup2 dX9_puts_96 rfl rfl ?_
    refine Rq_iald L dX9_puts_97 b2 hL (by decide) rfl ?_
    refine Rq_iconst (1) dX9_puts_98 (by decide) ?_
    refine Rq_iadd dX9_puts_99 ?_
    refine Rq_iast L dX9_puts_100 b2 hL (by decide) rfl ?_
    refine Rq_vret dX9_puts_101 rfl ?_
    have el : insR l c = l.take i ++ c :: l.drop i := by unfold insR; rw [if_neg hc, e]
    have ell : (insR l c).length = l.length + 1 := by
      rw [el, List.length_append, List.length_cons, List.length_take, List.length_drop]
      omega
    have rwi := rw_ins W (16 * L) i l.length c hi
    rw [lv.2.2] at rwi
    refine ⟨rfl, Fr.trans (Fr.set (by decide)) (Fr.set (by decide)), _, _, hNs (by decide) (hS _ k1), hS _ b2, ⟨?_, by omega, ?_⟩, fun k hk => ?_, fun k hk => ?_⟩
    · rw [pk_us, lv.1, nI_1, ell]
    · rw [ell, el]; exact rwi
    · simp only [upd, shf]
      rw [if_neg (by omega), if_neg (by omega)]
    · rw [pk_un hk]
  intro i
  induction i with
  | zero =>
    intro hi e
    simp only [insP] at e
    refine Rq_iload_n dX9_puts_46 rfl ?_
    refine Rq_iload dX9_puts_47 rfl ?_
    refine Rq_icmp_le_t 84 dX9_puts_49 (by decide) (nI_le (by omega) (by omega)) ?_
    exact fin 0 hi e
  | succ i ih =>
    intro hi e
    have e2 := e
    simp only [insP] at e2
    have a0 := hNs (e' := aI 416 (shf W (16 * L) 0 l.length (i + 1))) (by decide : (55 : Nat) ≠ 43) k0
    have a1 := hS (aI 416 (shf W (16 * L) 0 l.length (i + 1))) k1
    have ew : shf W (16 * L) 0 l.length (i + 1) (16 * L + i) = l.getD i 0 := by
      simp only [shf]
      rw [if_neg (by omega), lv.at (by omega)]
    refine Rq_iload_n dX9_puts_46 rfl ?_
    refine Rq_iload dX9_puts_47 rfl ?_
    refine Rq_icmp_le_f 84 dX9_puts_49 (by decide) (fun z => absurd z (Int32.not_le.mpr (nI_lt (by omega) (by omega)))) ?_
    refine Rq_aload_n dX9_puts_52 rfl ?_
    refine Rq_get dX9_puts_53 flX9_44 a0 rfl ?_
    refine Rq_iload_n dX9_puts_56 rfl ?_
    refine Rq_iconst (1) dX9_puts_57 (by decide) ?_
    refine Rq_isub dX9_puts_58 ?_
    rw [show 16 * L + (i + 1) = (16 * L + i) + 1 by omega, nI_pred]
    by_cases c1 : c < l.getD i 0
    · rw [if_pos c1] at e2
      refine Rq_iald (16 * L + i) dX9_puts_59 a1 (by omega) (by decide) rfl ?_
      refine Rq_iload_n dX9_puts_60 rfl ?_
      refine Rq_icmp_le_f 84 dX9_puts_61 (by decide) (by rw [ew]; exact Int32.not_le.mpr c1) ?_
      refine Rq_aload_n dX9_puts_64 rfl ?_
      refine Rq_get dX9_puts_65 flX9_44 a0 rfl ?_
      refine Rq_iload_n dX9_puts_68 rfl ?_
      refine Rq_aload_n dX9_puts_69 rfl ?_
      refine Rq_get dX9_puts_70 flX9_44 a0 rfl ?_
      refine Rq_iload_n dX9_puts_73 rfl ?_
      refine Rq_iconst (1) dX9_puts_74 (by decide) ?_
      refine Rq_isub dX9_puts_75 ?_
      rw [nI_pred]
      refine Rq_iald (16 * L + i) dX9_puts_76 a1 (by omega) (by decide) rfl ?_
      refine Rq_iast (16 * L + i + 1) dX9_puts_77 a1 (by omega) (by decide) rfl ?_
      rw [List.set_set, shf_s W (16 * L) 0 l.length i (by omega)]
      refine Rq_iinc [_, _, _, _, _, _] (-1) dX9_puts_78 rfl (by decide) rfl rfl rfl ?_
      refine Rq_goto 46 dX9_puts_81 (by decide) ?_
      rw [pk_m1]
      exact ih (by omega) e2
    · rw [if_neg c1] at e2
      refine Rq_iald (16 * L + i) dX9_puts_59 a1 (by omega) (by decide) rfl ?_
      refine Rq_iload_n dX9_puts_60 rfl ?_
      refine Rq_icmp_le_t 84 dX9_puts_61 (by decide) (by rw [ew]; exact Int32.not_lt.mp c1) ?_
      exact fin (i + 1) hi e2
theorem rp_puts (d : Nat) {L : Nat} {l : List Int32} {c : Int32} (hL : L < 26) (hl : l.length < 16) (k0 : h[43]? = some (obM sm ln ic nm rm hf ht rt mm il sp rdm)) (k1 : h[55]? = some (aI 416 W)) (k2 : h[56]? = some (aI 26 Mn)) (lv : Lv W Mn L l) : Mq mX9_puts d [.ref 43, .int (nI L), .int c] h (lvP h W Mn L (insR l c)) := by
  have ea : (16 : Int32) * nI L + Mn L = nI (16 * L + l.length) := by rw [lv.1]; exact ixm 16 L l.length
  have loop : ∀ (j i : Nat), i + j = l.length → (∀ q, q < i → ¬ l.getD q 0 = c) → Rq mX9_puts d 22 [.ref 43, .int (nI L), .int c, .int (nI (16 * L + l.length)), .int (nI (16 * L)), .int (nI (16 * L + i))] [] h (lvP h W Mn L (insR l c)) := by
    intro j
    induction j with
    | zero =>
      intro i hi hq
      have e : i = l.length := by omega
      subst e
      have hc : c ∉ l := by
        intro z
        obtain ⟨q, hq1, hq2⟩ := List.getElem_of_mem z
        refine hq q hq1 ?_
        rw [List.getD_eq_getElem?_getD, List.getElem?_eq_getElem hq1]
        exact hq2
      refine Rq_iload dX9_puts_22 rfl ?_
      refine Rq_iload_n dX9_puts_24 rfl ?_
      refine Rq_icmp_ge_t 46 dX9_puts_25 (by decide) (nI_le (Nat.le_refl _) (by omega)) ?_
      refine Rq_dead [_, _, _, _, _, .retAddr 0] ⟨Or.inr rfl, Or.inr rfl, Or.inr rfl, Or.inr rfl, Or.inr rfl, Or.inl rfl, trivial⟩ ?_
      have := puts_shift d hL hl hc k0 k1 k2 lv l.length (Nat.le_refl _) rfl
      rw [show shf W (16 * L) 0 l.length l.length = W from by funext k; simp only [shf]; rw [if_neg (by omega)], hset_same k1] at this
      exact this
    | succ j ih =>
      intro i hi hq
      have ew := lv.at (show i < l.length by omega)
      by_cases c1 : l.getD i 0 = c
      · have hc : c ∈ l := by
          rw [← c1, List.getD_eq_getElem?_getD, List.getElem?_eq_getElem (by omega)]
          exact List.getElem_mem _
        refine Rq_iload dX9_puts_22 rfl ?_
        refine Rq_iload_n dX9_puts_24 rfl ?_
        refine Rq_icmp_ge_f 46 dX9_puts_25 (by decide) (nI_ge (by omega) (by omega)) ?_
        refine Rq_aload_n dX9_puts_28 rfl ?_
        refine Rq_get dX9_puts_29 flX9_44 k0 rfl ?_
        refine Rq_iload dX9_puts_32 rfl ?_
        refine Rq_iald (16 * L + i) dX9_puts_34 k1 (by omega) (by decide) rfl ?_
        refine Rq_iload_n dX9_puts_35 rfl ?_
        refine Rq_icmp_ne_f 40 dX9_puts_36 (by decide) (by rw [ew]; exact c1) ?_
        refine Rq_vret dX9_puts_39 rfl ?_
        exact ⟨rfl, Fr.rfl', W, Mn, k1, k2, by unfold insR; rw [if_pos hc]; exact lv, fun _ _ => rfl, fun _ _ => rfl⟩
      · refine Rq_iload dX9_puts_22 rfl ?_
        refine Rq_iload_n dX9_puts_24 rfl ?_
        refine Rq_icmp_ge_f 46 dX9_puts_25 (by decide) (nI_ge (by omega) (by omega)) ?_
        refine Rq_aload_n dX9_puts_28 rfl ?_
        refine Rq_get dX9_puts_29 flX9_44 k0 rfl ?_
        refine Rq_iload dX9_puts_32 rfl ?_
        refine Rq_iald (16 * L + i) dX9_puts_34 k1 (by omega) (by decide) rfl ?_
        refine Rq_iload_n dX9_puts_35 rfl ?_
        refine Rq_icmp_ne_t 40 dX9_puts_36 (by decide) (by rw [ew]; exact c1) ?_
        refine Rq_iinc [_, _, _, _, _, _] (1) dX9_puts_40 rfl (by decide) rfl rfl rfl ?_
        refine Rq_goto 22 dX9_puts_43 (by decide) ?_
        rw [nI_1]
        refine ih (i + 1) (by omega) (fun q hq1 => ?_)
        by_cases e : q = i
        · subst e; exact c1
        · exact hq q (by omega)
  refine Mq_of [_, _, _, _, _, _] (by decide +kernel) rfl rfl ?_
  refine Rq_bipush (16) dX9_puts_0 (by decide) ?_
  refine Rq_iload_n dX9_puts_2 rfl ?_
  refine Rq_imul dX9_puts_3 ?_
  refine Rq_aload_n dX9_puts_4 rfl ?_
  refine Rq_get dX9_puts_5 flX9_47 k0 rfl ?_
  refine Rq_iload_n dX9_puts_8 rfl ?_
  refine Rq_iald L dX9_puts_9 k2 hL (by decide) rfl ?_
  refine Rq_iadd dX9_puts_10 ?_
  rw [ea]
  refine Rq_istore_n [_, _, _, _, _, _] dX9_puts_11 rfl rfl rfl ?_
  refine Rq_bipush (16) dX9_puts_12 (by decide) ?_
  refine Rq_iload_n dX9_puts_14 rfl ?_
  refine Rq_imul dX9_puts_15 ?_
  rw [show (16 : Int32) * nI L = nI (16 * L) from pk_mul 16 L]
  refine Rq_istore [_, _, _, _, _, _] dX9_puts_16 rfl rfl rfl ?_
  refine Rq_iload dX9_puts_18 rfl ?_
  refine Rq_istore [_, _, _, _, _, _] dX9_puts_20 rfl rfl rfl ?_
  exact loop l.length 0 (by omega) (fun q hq => by omega)
/-- a literal set to true in a row -/
def resR (lit : Int32) (l : List Int32) : List Int32 := l.foldl (fun a c => if c &&& rBit lit = 0 then insR a (c &&& (rBit (-lit) ^^^ (-1))) else a) []
def resRk (lit : Int32) (l : List Int32) (k : Nat) : List Int32 := (l.take k).foldl (fun a c => if c &&& rBit lit = 0 then insR a (c &&& (rBit (-lit) ^^^ (-1))) else a) []
theorem take_s (l : List Int32) {k : Nat} (hk : k < l.length) : l.take (k + 1) = l.take k ++ [l.getD k 0] := by
  rw [List.take_add_one, List.getD_eq_getElem?_getD, List.getElem?_eq_getElem hk]
  rfl
theorem resRk_s (lit : Int32) (l : List Int32) {k : Nat} (hk : k < l.length) : resRk lit l (k + 1) = if l.getD k 0 &&& rBit lit = 0 then insR (resRk lit l k) (l.getD k 0 &&& (rBit (-lit) ^^^ (-1))) else resRk lit l k := by
  unfold resRk
  rw [take_s l hk, List.foldl_append]
  rfl
theorem resRk_len (lit : Int32) (l : List Int32) : ∀ k, k ≤ l.length → (resRk lit l k).length ≤ k
  | 0, _ => by simp [resRk]
  | k + 1, hk => by
    rw [resRk_s lit l (by omega)]
    have := resRk_len lit l k (by omega)
    split
    · have := insR_len (l := resRk lit l k) (c := l.getD k 0 &&& (rBit (-lit) ^^^ (-1)))
      omega
    · omega
theorem rp_sets (d : Nat) {L : Nat} {l : List Int32} {lit : Int32} (hL : L + 1 < 26) (k0 : h[43]? = some (obM sm ln ic nm rm hf ht rt mm il sp rdm)) (k1 : h[55]? = some (aI 416 W)) (k2 : h[56]? = some (aI 26 Mn)) (lv : Lv W Mn L l) : Mq mX9_sets (d + 1) [.ref 43, .int (nI L), .int lit] h (lvP h W Mn (L + 1) (resR lit l)) := by
  have loop : ∀ (j i : Nat) (h1 : Hp) (W1 Mn1 : Nat → Int32), i + j = l.length → Fr [55, 56] h h1 → h1[55]? = some (aI 416 W1) → h1[56]? = some (aI 26 Mn1) → Lv W1 Mn1 (L + 1) (resRk lit l i) → (∀ k, k < 16 * (L + 1) ∨ 16 * (L + 1) + 16 ≤ k → W1 k = W k) → (∀ k, k ≠ L + 1 → Mn1 k = Mn k) →
      Rq mX9_sets (d + 1) 11 [.ref 43, .int (nI L), .int lit, .int (nI i), .retAddr 0] [] h1 (lvP h W Mn (L + 1) (resR lit l)) := by
    intro j
    induction j with
    | zero =>
      intro i h1 W1 Mn1 hi F a1 a2 lv1 hw hm
      have e : i = l.length := by omega
      subst e
      have a0 := F.at (by decide) k0
      have b : Lv W1 Mn1 L l := lv.keep (hm L (by omega)) (fun k z1 z2 => hw k (by omega))
      refine Rq_iload_n dX9_sets_11 rfl ?_
      refine Rq_aload_n dX9_sets_12 rfl ?_
      refine Rq_get dX9_sets_13 flX9_47 a0 rfl ?_
      refine Rq_iload_n dX9_sets_16 rfl ?_
      refine Rq_iald L dX9_sets_17 a2 (by omega) (by decide) rfl ?_
      refine Rq_icmp_ge_t 67 dX9_sets_18 (by decide) (by rw [b.1]; exact nI_le (Nat.le_refl _) (by have := b.2.1; omega)) ?_
      refine Rq_vret dX9_sets_67 rfl ?_
      refine ⟨rfl, F, W1, Mn1, a1, a2, ?_, hw, hm⟩
      have : resRk lit l l.length = resR lit l := by unfold resRk resR; rw [List.take_length]
      rw [← this]
      exact lv1
    | succ j ih =>
      intro i h1 W1 Mn1 hi F a1 a2 lv1 hw hm
      have a0 := F.at (by decide) k0
      have b : Lv W1 Mn1 L l := lv.keep (hm L (by omega)) (fun k z1 z2 => hw k (by omega))
      have bl := b.2.1
      have ew := b.at (show i < l.length by omega)
      have rs := resRk_s lit l (show i < l.length by omega)
      have rl := resRk_len lit l i (by omega)
      refine Rq_iload_n dX9_sets_11 rfl ?_
      refine Rq_aload_n dX9_sets_12 rfl ?_
      refine Rq_get dX9_sets_13 flX9_47 a0 rfl ?_
      refine Rq_iload_n dX9_sets_16 rfl ?_
      refine Rq_iald L dX9_sets_17 a2 (by omega) (by decide) rfl ?_
      refine Rq_icmp_ge_f 67 dX9_sets_18 (by decide) (by rw [b.1]; exact nI_ge (by omega) (by omega)) ?_
      refine Rq_aload_n dX9_sets_21 rfl ?_
      refine Rq_get dX9_sets_22 flX9_44 a0 rfl ?_
      refine Rq_bipush (16) dX9_sets_25 (by decide) ?_
      refine Rq_iload_n dX9_sets_27 rfl ?_
      refine Rq_imul dX9_sets_28 ?_
      refine Rq_iload_n dX9_sets_29 rfl ?_
      refine Rq_iadd dX9_sets_30 ?_
      refine Rq_iald (16 * L + i) dX9_sets_31 a1 (by omega) (by decide) (ixm 16 L i) ?_
      rw [ew]
      by_cases c1 : l.getD i 0 &&& rBit lit = 0
      · rw [if_pos c1] at rs
        refine Rq_istore [_, _, _, _, _] dX9_sets_32 rfl rfl rfl ?_
        refine Rq_iload dX9_sets_34 rfl ?_
        refine Rq_iload_n dX9_sets_36 rfl ?_
        refine Rq_callS [_] dX9_sets_37 clX9_88 (rp_bitOf d _ lit) rfl rfl rfl ?_
        refine Rq_iand dX9_sets_40 ?_
        refine Rq_if_ne_f 61 dX9_sets_41 (by decide) c1 ?_
        refine Rq_aload_n dX9_sets_44 rfl ?_
        refine Rq_iload_n dX9_sets_45 rfl ?_
        refine Rq_iconst (1) dX9_sets_46 (by decide) ?_
        refine Rq_iadd dX9_sets_47 ?_
        rw [nI_1]
        refine Rq_iload dX9_sets_48 rfl ?_
        refine Rq_iload_n dX9_sets_50 rfl ?_
        refine Rq_ineg dX9_sets_51 ?_
        refine Rq_callS [_] dX9_sets_52 clX9_88 (rp_bitOf d _ _) rfl rfl rfl ?_
        refine Rq_iconst (-1) dX9_sets_55 (by decide) ?_
        refine Rq_ixor dX9_sets_56 ?_
        refine Rq_iand dX9_sets_57 ?_
        refine Rq_callVq [_, _] dX9_sets_58 clX9_122 rfl a0 (rp_puts d hL (by omega) a0 a1 a2 lv1) rfl rfl rfl (fun rv h2 hq => ?_)
        obtain ⟨rfl, F2, W2, Mn2, b1, b2, lv2, hw2, hm2⟩ := hq
        refine Rq_iinc [_, _, _, _, _] (1) dX9_sets_61 rfl (by decide) rfl rfl rfl ?_
        refine Rq_goto 11 dX9_sets_64 (by decide) ?_
        refine Rq_dead [_, _, _, _, .retAddr 0] ⟨Or.inr rfl, Or.inr rfl, Or.inr rfl, Or.inr rfl, Or.inl rfl, trivial⟩ ?_
        rw [nI_1]
        exact ih (i + 1) h2 W2 Mn2 (by omega) (F.trans F2) b1 b2 (by rw [rs]; exact lv2) (fun k hk => (hw2 k hk).trans (hw k hk)) (fun k hk => (hm2 k hk).trans (hm k hk))
      · rw [if_neg c1] at rs
        refine Rq_istore [_, _, _, _, _] dX9_sets_32 rfl rfl rfl ?_
        refine Rq_iload dX9_sets_34 rfl ?_
        refine Rq_iload_n dX9_sets_36 rfl ?_
        refine Rq_callS [_] dX9_sets_37 clX9_88 (rp_bitOf d _ lit) rfl rfl rfl ?_
        refine Rq_iand dX9_sets_40 ?_
        refine Rq_if_ne_t 61 dX9_sets_41 (by decide) c1 ?_
        refine Rq_iinc [_, _, _, _, _] (1) dX9_sets_61 rfl (by decide) rfl rfl rfl ?_
        refine Rq_goto 11 dX9_sets_64 (by decide) ?_
        refine Rq_dead [_, _, _, _, .retAddr 0] ⟨Or.inr rfl, Or.inr rfl, Or.inr rfl, Or.inr rfl, Or.inl rfl, trivial⟩ ?_
        rw [nI_1]
        exact ih (i + 1) h1 W1 Mn1 (by omega) F a1 a2 (by rw [rs]; exact lv1) hw hm
  refine Mq_of [_, _, _, _, _] (by decide +kernel) rfl rfl ?_
  refine Rq_aload_n dX9_sets_0 rfl ?_
  refine Rq_get dX9_sets_1 flX9_47 k0 rfl ?_
  refine Rq_iload_n dX9_sets_4 rfl ?_
  refine Rq_iconst (1) dX9_sets_5 (by decide) ?_
  refine Rq_iadd dX9_sets_6 ?_
  refine Rq_iconst (0) dX9_sets_7 (by decide) ?_
  refine Rq_iast (L + 1) dX9_sets_8 k2 hL (by decide) (nI_1 L) ?_
  refine Rq_iconst (0) dX9_sets_9 (by decide) ?_
  refine Rq_istore_n [_, _, _, _, _] dX9_sets_10 rfl rfl rfl ?_
  refine loop l.length 0 _ W (upd Mn (L + 1) 0) (by omega) (Fr.set (by decide)) (hNs (by decide) k1) (hS _ k2) ⟨by rw [pk_us]; rfl, by simp [resRk], by simp [resRk, rw]⟩ (fun _ _ => rfl) (fun k hk => by rw [pk_un hk])
/-! a bit of an int -/
theorem and1_iff (x : Int32) : x &&& 1 = 0 ↔ bt x 0 = false := by
  constructor
  · intro h
    have := congrArg (fun y => bt y 0) h
    simp only [b_and, b_0] at this
    rw [show bt 1 0 = true from by decide, Bool.and_true] at this
    exact this
  · intro h
    apply b_ext
    intro i hi
    rw [b_and, b_0]
    by_cases c : i = 0
    · subst c; rw [h]; rfl
    · have : ∀ i : Nat, i < 32 → ¬ i = 0 → bt 1 i = false := by decide
      rw [this i hi c, Bool.and_false]
theorem shr1_iff (x : Int32) {k : Nat} (hk : k < 32) : x >>> (nI k &&& 31) &&& 1 = 0 ↔ bt x k = false := by
  rw [and1_iff, b_sshr k hk x (by decide), Nat.add_zero, if_pos hk]
theorem one_bit {k i : Nat} (hk : k < 32) (hi : i < 32) : bt ((1 : Int32) <<< (nI k &&& 31)) i = decide (i = k) := by
  rw [b_shl k hk 1 hi]
  have : ∀ i : Nat, i < 32 → bt 1 i = decide (i = 0) := by decide
  by_cases c : k ≤ i
  · rw [decide_eq_true c, Bool.true_and, this _ (by omega)]
    congr 1
    rw [eq_iff_iff]
    omega
  · rw [decide_eq_false c, Bool.false_and]
    symm
    rw [decide_eq_false_iff_not]
    omega
theorem and0_iff (x y : Int32) : x &&& y = 0 ↔ ∀ b, b < 32 → ¬ (bt x b = true ∧ bt y b = true) := by
  constructor
  · intro h b _ ⟨h1, h2⟩
    have := congrArg (fun z => bt z b) h
    simp only [b_and, b_0, h1, h2] at this
    cases this
  · intro h
    apply b_ext
    intro i hi
    rw [b_and, b_0]
    have := h i hi
    cases h1 : bt x i <;> cases h2 : bt y i <;> simp_all
end RF
