/-! the reference's methods: what holds between calls; graph, models -/
theorem RG.z {h : Hp} {S S' : Nat → Int32} {n n' : Nat} {ic nm hf ht rt nm' hf' ht' rt' : Int32} (x : RG h S n ic nm hf ht rt) : RG h S' n' 0 nm' hf' ht' rt' := by
  obtain ⟨B, Z, vo, co, dn, R, H, W, Mn, NA, GA, DA, k48, k49, k50, k51, k52, k53, k54, k55, k56, k57, k58, k59, d0, d1, x⟩ := x
  exact ⟨B, Z, vo, co, dn, R, H, W, Mn, NA, GA, DA, k48, k49, k50, k51, k52, k53, k54, k55, k56, k57, k58, k59, d0, d1, Or.inl rfl⟩
theorem RG.ag {h h' : Hp} {S : Nat → Int32} {n : Nat} {ic nm hf ht rt : Int32} (x : RG h S n ic nm hf ht rt) (y : Ag 48 59 h h') : RG h' S n ic nm hf ht rt := by
  obtain ⟨B, Z, vo, co, dn, R, H, W, Mn, NA, GA, DA, k48, k49, k50, k51, k52, k53, k54, k55, k56, k57, k58, k59, d0, d1, x⟩ := x
  exact ⟨B, Z, vo, co, dn, R, H, W, Mn, NA, GA, DA, (y 48 (by decide) (by decide)).trans k48, (y 49 (by decide) (by decide)).trans k49, (y 50 (by decide) (by decide)).trans k50, (y 51 (by decide) (by decide)).trans k51, (y 52 (by decide) (by decide)).trans k52, (y 53 (by decide) (by decide)).trans k53, (y 54 (by decide) (by decide)).trans k54, (y 55 (by decide) (by decide)).trans k55, (y 56 (by decide) (by decide)).trans k56, (y 57 (by decide) (by decide)).trans k57, (y 58 (by decide) (by decide)).trans k58, (y 59 (by decide) (by decide)).trans k59, d0, d1, x⟩
theorem RM.z {h : Hp} {S S' : Nat → Int32} {n n' : Nat} {mm il mm' : Int32} (x : RM h S n mm il) : RM h S' n' mm' 0 := by
  obtain ⟨g, a, -⟩ := x
  exact ⟨g, a, Or.inl rfl⟩
theorem RM.at {h h' : Hp} {S : Nat → Int32} {n : Nat} {mm il : Int32} (x : RM h S n mm il) (y : h'[60]? = h[60]?) : RM h' S n mm il := by
  obtain ⟨g, a, b⟩ := x
  exact ⟨g, y.trans a, b⟩
/-- a state's 39 numbers, from a place on -/
def okS (V : Nat → Int32) (o : Nat) : Prop := ∃ m, m ≤ 16 ∧ V o = nI m ∧ ∀ k, k < m → vW (V (o + (1 + k)))
def RI (h : Hp) (S V er tx : Nat → Int32) (n sm tn : Nat) : Prop := ∃ ic nm rm hf ht rt mm il sp rdm, h[43]? = some (obM (nI sm) (nI tn) ic nm rm hf ht rt mm il sp rdm) ∧ h[44]? = some (aI 39 S) ∧ S 0 = nI n ∧ n ≤ 16 ∧ (∀ k, k < n → vW (S (1 + k))) ∧ h[45]? = some (aI 195 V) ∧ sm ≤ 5 ∧ (∀ i, i < sm → okS V (39 * i)) ∧ h[46]? = some (aI 4 er) ∧ h[47]? = some (aI 150 tx) ∧ tn ≤ 150 ∧ RG h S n ic nm hf ht rt ∧ RM h S n mm il ∧ ∃ rc, h[61]? = some (aI 16 rc)
abbrev qR (h : Hp) (S V er tx : Nat → Int32) (n sm tn : Nat) (v : Value) (r : Option Value) (h' : Hp) : Prop := r = some v ∧ Fr mC h h' ∧ RI h' S V er tx n sm tn
section RF
variable {h : Hp} {S V er tx : Nat → Int32} {n sm tn : Nat}
theorem RI.err (x : RI h S V er tx n sm tn) (er' : Nat → Int32) : RI (h.set 46 (aI 4 er')) S V er' tx n sm tn := by
  obtain ⟨ic, nm, rm, hf, ht, rt, mm, il, sp, rdm, k43, k44, s0, n16, sv, k45, sm5, vo, k46, k47, tl, rg, rmm, rc, k61⟩ := x
  have F : Fr [46] h (h.set 46 (aI 4 er')) := Fr.set (by decide)
  exact ⟨ic, nm, rm, hf, ht, rt, mm, il, sp, rdm, F.at (by decide) k43, F.at (by decide) k44, s0, n16, sv, F.at (by decide) k45, sm5, vo, hS _ k46, F.at (by decide) k47, tl, rg.ag (F.ag (by decide)), rmm.at (F.2 60 (by decide)), rc, F.at (by decide) k61⟩
/-! the graph -/
theorem ri_comp (d : Nat) (x : RI h S V er tx n sm tn) : Mq mX9_compiles (d + 4) [.ref 43] h (fun r h' => r = none ∧ Fr mC h h' ∧ RI h' S V er tx n sm tn ∧ ∃ s res rm mm il sp rdm, h'[43]? = some (obM (nI sm) (nI tn) 1 (nI ((zT s).length + 2)) rm (zF s) (zH s) (nI res) mm il sp rdm) ∧ h'[50]? = some (aI 4096 (zV s)) ∧ h'[51]? = some (aI 4096 (zC s)) ∧ h'[52]? = some (aI 4096 (zD s)) ∧ FIN (rtK S n) s res) := by
  obtain ⟨ic, nm, rm, hf, ht, rt, mm, il, sp, rdm, k43, k44, s0, n16, sv, k45, sm5, vo, k46, k47, tl, rg, rmm, rc, k61⟩ := x
  refine Mq.mono (rp_compiles d s0 n16 sv k43 k44 rg) ?_
  rintro r h' ⟨rfl, F, nm', rm', hf', ht', rt', j43, rg'⟩
  refine ⟨rfl, F.mono (by decide), ⟨1, nm', rm', hf', ht', rt', mm, il, sp, rdm, j43, F.at (by decide) k44, s0, n16, sv, F.at (by decide) k45, sm5, vo, F.at (by decide) k46, F.at (by decide) k47, tl, rg', rmm.at (F.2 60 (by decide)), rc, F.at (by decide) k61⟩, ?_⟩
  obtain ⟨B, Z, vo', co', dn', R, H, W, Mn, NA, GA, DA, k48, k49, k50, k51, k52, k53, k54, k55, k56, k57, k58, k59, d0, d1, y⟩ := rg'
  rcases y with y | ⟨_, s, res, e1, e2, e3, e4, e5, e6, e7, fin⟩
  · cases y
  · subst e1 e2 e3 e4 e5 e6 e7
    exact ⟨s, res, rm', mm, il, sp, rdm, j43, k50, k51, k52, fin⟩
def rNod (s : St) : Int32 := nI (zT s).length + (if zF s = 0 then 0 else 1) + (if zH s = 0 then 0 else 1)
theorem rx_nodes (d : Nat) (x : RI h S V er tx n sm tn) : Mq mX9_nodes (d + 5) [.ref 43] h (fun r h' => ∃ s res, FIN (rtK S n) s res ∧ qR h S V er tx n sm tn (.int (rNod s)) r h') := by
  have x0 := x
  obtain ⟨ic, nm, rm, hf, ht, rt, mm, il, sp, rdm, k43, -⟩ := x
  refine Mq_of [_] (by decide +kernel) rfl rfl ?_
  refine Rq_aload_n dX9_nodes_0 rfl ?_
  refine Rq_callVq [] dX9_nodes_1 clX9_163 rfl k43 (ri_comp d x0) rfl rfl rfl (fun rv h1 hq => ?_)
  obtain ⟨rfl, F, x1, s, res, rm', mm', il', sp', rdm', j43, j50, j51, j52, fin⟩ := hq
  have e2 : nI ((zT s).length + 2) - 2 = nI (zT s).length := by
    rw [show (2 : Int32) = nI 2 from rfl, pk_sub (by omega)]
    rfl
  refine Rq_aload_n dX9_nodes_4 rfl ?_
  refine Rq_get dX9_nodes_5 flX9_135 j43 rfl ?_
  refine Rq_iconst (2) dX9_nodes_8 (by decide) ?_
  refine Rq_isub dX9_nodes_9 ?_
  rw [e2]
  by_cases c1 : zF s = 0
  · by_cases c2 : zH s = 0
    · refine Rq_aload_n dX9_nodes_10 rfl ?_
      refine Rq_get dX9_nodes_11 flX9_129 j43 rfl ?_
      refine Rq_if_eq_t 21 dX9_nodes_14 (by decide) c1 ?_
      refine Rq_iconst (0) dX9_nodes_21 (by decide) ?_
      refine Rq_iadd dX9_nodes_22 ?_
      refine Rq_aload_n dX9_nodes_23 rfl ?_
      refine Rq_get dX9_nodes_24 flX9_126 j43 rfl ?_
      refine Rq_if_eq_t 34 dX9_nodes_27 (by decide) c2 ?_
      refine Rq_iconst (0) dX9_nodes_34 (by decide) ?_
      refine Rq_iadd dX9_nodes_35 ?_
      refine Rq_iret dX9_nodes_36 rfl ?_
      exact ⟨s, res, fin, by unfold rNod; rw [if_pos c1, if_pos c2], F, x1⟩
    · refine Rq_aload_n dX9_nodes_10 rfl ?_
      refine Rq_get dX9_nodes_11 flX9_129 j43 rfl ?_
      refine Rq_if_eq_t 21 dX9_nodes_14 (by decide) c1 ?_
      refine Rq_iconst (0) dX9_nodes_21 (by decide) ?_
      refine Rq_iadd dX9_nodes_22 ?_
      refine Rq_aload_n dX9_nodes_23 rfl ?_
      refine Rq_get dX9_nodes_24 flX9_126 j43 rfl ?_
      refine Rq_if_eq_f 34 dX9_nodes_27 (by decide) c2 ?_
      refine Rq_iconst (1) dX9_nodes_30 (by decide) ?_
      refine Rq_goto 35 dX9_nodes_31 (by decide) ?_
      refine Rq_iadd dX9_nodes_35 ?_
      refine Rq_iret dX9_nodes_36 rfl ?_
      exact ⟨s, res, fin, by unfold rNod; rw [if_pos c1, if_neg c2], F, x1⟩
  · by_cases c2 : zH s = 0
    · refine Rq_aload_n dX9_nodes_10 rfl ?_
      refine Rq_get dX9_nodes_11 flX9_129 j43 rfl ?_
      refine Rq_if_eq_f 21 dX9_nodes_14 (by decide) c1 ?_
      refine Rq_iconst (1) dX9_nodes_17 (by decide) ?_
      refine Rq_goto 22 dX9_nodes_18 (by decide) ?_
      refine Rq_iadd dX9_nodes_22 ?_
      refine Rq_aload_n dX9_nodes_23 rfl ?_
      refine Rq_get dX9_nodes_24 flX9_126 j43 rfl ?_
      refine Rq_if_eq_t 34 dX9_nodes_27 (by decide) c2 ?_
      refine Rq_iconst (0) dX9_nodes_34 (by decide) ?_
      refine Rq_iadd dX9_nodes_35 ?_
      refine Rq_iret dX9_nodes_36 rfl ?_
      exact ⟨s, res, fin, by unfold rNod; rw [if_neg c1, if_pos c2], F, x1⟩
    · refine Rq_aload_n dX9_nodes_10 rfl ?_
      refine Rq_get dX9_nodes_11 flX9_129 j43 rfl ?_
      refine Rq_if_eq_f 21 dX9_nodes_14 (by decide) c1 ?_
      refine Rq_iconst (1) dX9_nodes_17 (by decide) ?_
      refine Rq_goto 22 dX9_nodes_18 (by decide) ?_
      refine Rq_iadd dX9_nodes_22 ?_
      refine Rq_aload_n dX9_nodes_23 rfl ?_
      refine Rq_get dX9_nodes_24 flX9_126 j43 rfl ?_
      refine Rq_if_eq_f 34 dX9_nodes_27 (by decide) c2 ?_
      refine Rq_iconst (1) dX9_nodes_30 (by decide) ?_
      refine Rq_goto 35 dX9_nodes_31 (by decide) ?_
      refine Rq_iadd dX9_nodes_35 ?_
      refine Rq_iret dX9_nodes_36 rfl ?_
      exact ⟨s, res, fin, by unfold rNod; rw [if_neg c1, if_neg c2], F, x1⟩
def rMany (s : St) (b : Bool) : Nat := fb_ct (fun i => decide (0 < zV s (i + 2)) == b) (zT s).length
theorem rx_many (d : Nat) (b : Bool) (x : RI h S V er tx n sm tn) : Mq mX9_manyOf (d + 5) [.ref 43, .int (b2i b)] h (fun r h' => ∃ s res, FIN (rtK S n) s res ∧ qR h S V er tx n sm tn (.int (nI (rMany s b))) r h') := by
  have x0 := x
  obtain ⟨ic, nm, rm, hf, ht, rt, mm, il, sp, rdm, k43, -⟩ := x
  refine Mq_of [_, _, _, _] (by decide +kernel) rfl rfl ?_
  refine Rq_aload_n dX9_manyOf_0 rfl ?_
  refine Rq_callVq [] dX9_manyOf_1 clX9_163 rfl k43 (ri_comp d x0) rfl rfl rfl (fun rv h1 hq => ?_)
  obtain ⟨rfl, F, x1, s, res, rm', mm', il', sp', rdm', j43, j50, j51, j52, fin⟩ := hq
  have tl := fin.2.1
  have loop : ∀ (j i : Nat), i + j = (zT s).length → Rq mX9_manyOf (d + 5) 8 [.ref 43, .int (b2i b), .int (nI (fb_ct (fun i => decide (0 < zV s (i + 2)) == b) i)), .int (nI (i + 2))] [] h1 (fun r h' => ∃ s res, FIN (rtK S n) s res ∧ qR h S V er tx n sm tn (.int (nI (rMany s b))) r h') := by
    intro j
    induction j with
    | zero =>
      intro i hi
      have e : i = (zT s).length := by omega
      subst e
      refine Rq_iload_n dX9_manyOf_8 rfl ?_
      refine Rq_aload_n dX9_manyOf_9 rfl ?_
      refine Rq_get dX9_manyOf_10 flX9_135 j43 rfl ?_
      refine Rq_icmp_ge_t 48 dX9_manyOf_13 (by decide) (nI_le (Nat.le_refl _) (by omega)) ?_
      refine Rq_iload_n dX9_manyOf_48 rfl ?_
      refine Rq_iret dX9_manyOf_49 rfl ?_
      exact ⟨s, res, fin, rfl, F, x1⟩
    | succ j ih =>
      intro i hi
      have q := ih (i + 1) (by omega)
      rw [fb_ct_succ] at q
      by_cases c : zV s (i + 2) ≤ 0
      · have e : decide (0 < zV s (i + 2)) = false := decide_eq_false (Int32.not_lt.mpr c)
        rw [e] at q
        cases b with
        | true =>
          refine Rq_iload_n dX9_manyOf_8 rfl ?_
          refine Rq_aload_n dX9_manyOf_9 rfl ?_
          refine Rq_get dX9_manyOf_10 flX9_135 j43 rfl ?_
          refine Rq_icmp_ge_f 48 dX9_manyOf_13 (by decide) (nI_ge (by omega) (by omega)) ?_
          refine Rq_iload_n dX9_manyOf_16 rfl ?_
          refine Rq_aload_n dX9_manyOf_17 rfl ?_
          refine Rq_get dX9_manyOf_18 flX9_28 j43 rfl ?_
          refine Rq_iload_n dX9_manyOf_21 rfl ?_
          refine Rq_iald (i + 2) dX9_manyOf_22 j50 (by omega) (by decide) rfl ?_
          refine Rq_if_le_t 30 dX9_manyOf_23 (by decide) c ?_
          refine Rq_iconst (0) dX9_manyOf_30 (by decide) ?_
          refine Rq_iload_n dX9_manyOf_31 rfl ?_
          refine Rq_icmp_ne_t 39 dX9_manyOf_32 (by decide) (by decide) ?_
          refine Rq_iconst (0) dX9_manyOf_39 (by decide) ?_
          refine Rq_iadd dX9_manyOf_40 ?_
          refine Rq_istore_n [_, _, _, _] dX9_manyOf_41 rfl rfl rfl ?_
          refine Rq_iinc [_, _, _, _] (1) dX9_manyOf_42 rfl (by decide) rfl rfl rfl ?_
          refine Rq_goto 8 dX9_manyOf_45 (by decide) ?_
          rw [nI_1, show (0 : Int32) = nI 0 from rfl, nI_add]
          exact q
        | false =>
          refine Rq_iload_n dX9_manyOf_8 rfl ?_
          refine Rq_aload_n dX9_manyOf_9 rfl ?_
          refine Rq_get dX9_manyOf_10 flX9_135 j43 rfl ?_
          refine Rq_icmp_ge_f 48 dX9_manyOf_13 (by decide) (nI_ge (by omega) (by omega)) ?_
          refine Rq_iload_n dX9_manyOf_16 rfl ?_
          refine Rq_aload_n dX9_manyOf_17 rfl ?_
          refine Rq_get dX9_manyOf_18 flX9_28 j43 rfl ?_
          refine Rq_iload_n dX9_manyOf_21 rfl ?_
          refine Rq_iald (i + 2) dX9_manyOf_22 j50 (by omega) (by decide) rfl ?_
          refine Rq_if_le_t 30 dX9_manyOf_23 (by decide) c ?_
          refine Rq_iconst (0) dX9_manyOf_30 (by decide) ?_
          refine Rq_iload_n dX9_manyOf_31 rfl ?_
          refine Rq_icmp_ne_f 39 dX9_manyOf_32 (by decide) rfl ?_
          refine Rq_iconst (1) dX9_manyOf_35 (by decide) ?_
          refine Rq_goto 40 dX9_manyOf_36 (by decide) ?_
          refine Rq_iadd dX9_manyOf_40 ?_
          refine Rq_istore_n [_, _, _, _] dX9_manyOf_41 rfl rfl rfl ?_
          refine Rq_iinc [_, _, _, _] (1) dX9_manyOf_42 rfl (by decide) rfl rfl rfl ?_
          refine Rq_goto 8 dX9_manyOf_45 (by decide) ?_
          rw [nI_1, nI_1]
          exact q
      · have e : decide (0 < zV s (i + 2)) = true := decide_eq_true (Int32.not_le.mp c)
        rw [e] at q
        cases b with
        | true =>
          refine Rq_iload_n dX9_manyOf_8 rfl ?_
          refine Rq_aload_n dX9_manyOf_9 rfl ?_
          refine Rq_get dX9_manyOf_10 flX9_135 j43 rfl ?_
          refine Rq_icmp_ge_f 48 dX9_manyOf_13 (by decide) (nI_ge (by omega) (by omega)) ?_
          refine Rq_iload_n dX9_manyOf_16 rfl ?_
          refine Rq_aload_n dX9_manyOf_17 rfl ?_
          refine Rq_get dX9_manyOf_18 flX9_28 j43 rfl ?_
          refine Rq_iload_n dX9_manyOf_21 rfl ?_
          refine Rq_iald (i + 2) dX9_manyOf_22 j50 (by omega) (by decide) rfl ?_
          refine Rq_if_le_f 30 dX9_manyOf_23 (by decide) c ?_
          refine Rq_iconst (1) dX9_manyOf_26 (by decide) ?_
          refine Rq_goto 31 dX9_manyOf_27 (by decide) ?_
          refine Rq_iload_n dX9_manyOf_31 rfl ?_
          refine Rq_icmp_ne_f 39 dX9_manyOf_32 (by decide) rfl ?_
          refine Rq_iconst (1) dX9_manyOf_35 (by decide) ?_
          refine Rq_goto 40 dX9_manyOf_36 (by decide) ?_
          refine Rq_iadd dX9_manyOf_40 ?_
          refine Rq_istore_n [_, _, _, _] dX9_manyOf_41 rfl rfl rfl ?_
          refine Rq_iinc [_, _, _, _] (1) dX9_manyOf_42 rfl (by decide) rfl rfl rfl ?_
          refine Rq_goto 8 dX9_manyOf_45 (by decide) ?_
          rw [nI_1, nI_1]
          exact q
        | false =>
          refine Rq_iload_n dX9_manyOf_8 rfl ?_
          refine Rq_aload_n dX9_manyOf_9 rfl ?_
          refine Rq_get dX9_manyOf_10 flX9_135 j43 rfl ?_
          refine Rq_icmp_ge_f 48 dX9_manyOf_13 (by decide) (nI_ge (by omega) (by omega)) ?_
          refine Rq_iload_n dX9_manyOf_16 rfl ?_
          refine Rq_aload_n dX9_manyOf_17 rfl ?_
          refine Rq_get dX9_manyOf_18 flX9_28 j43 rfl ?_
          refine Rq_iload_n dX9_manyOf_21 rfl ?_
          refine Rq_iald (i + 2) dX9_manyOf_22 j50 (by omega) (by decide) rfl ?_
          refine Rq_if_le_f 30 dX9_manyOf_23 (by decide) c ?_
          refine Rq_iconst (1) dX9_manyOf_26 (by decide) ?_
          refine Rq_goto 31 dX9_manyOf_27 (by decide) ?_
          refine Rq_iload_n dX9_manyOf_31 rfl ?_
          refine Rq_icmp_ne_t 39 dX9_manyOf_32 (by decide) (by decide) ?_
          refine Rq_iconst (0) dX9_manyOf_39 (by decide) ?_
          refine Rq_iadd dX9_manyOf_40 ?_
          refine Rq_istore_n [_, _, _, _] dX9_manyOf_41 rfl rfl rfl ?_
          refine Rq_iinc [_, _, _, _] (1) dX9_manyOf_42 rfl (by decide) rfl rfl rfl ?_
          refine Rq_goto 8 dX9_manyOf_45 (by decide) ?_
          rw [nI_1, show (0 : Int32) = nI 0 from rfl, nI_add]
          exact q
  refine Rq_iconst (0) dX9_manyOf_4 (by decide) ?_
  refine Rq_istore_n [_, _, _, _] dX9_manyOf_5 rfl rfl rfl ?_
  refine Rq_iconst (2) dX9_manyOf_6 (by decide) ?_
  refine Rq_istore_n [_, _, _, _] dX9_manyOf_7 rfl rfl rfl ?_
  exact loop (zT s).length 0 (by omega)
theorem rx_dnodes (d : Nat) (x : RI h S V er tx n sm tn) : Mq mX9_decisionNodes (d + 6) [.ref 43] h (fun r h' => ∃ s res, FIN (rtK S n) s res ∧ qR h S V er tx n sm tn (.int (nI (rMany s true))) r h') := by
  have x0 := x
  obtain ⟨ic, nm, rm, hf, ht, rt, mm, il, sp, rdm, k43, -⟩ := x
  refine Mq_of [_] (by decide +kernel) rfl rfl ?_
  refine Rq_aload_n dX9_decisionNodes_0 rfl ?_
  refine Rq_iconst (1) dX9_decisionNodes_1 (by decide) ?_
  refine Rq_callVq [_] dX9_decisionNodes_2 clX9_166 rfl k43 (rx_many d true x0) rfl rfl rfl (fun rv h1 hq => ?_)
  obtain ⟨s, res, fin, rfl, q⟩ := hq
  refine Rq_iret dX9_decisionNodes_5 rfl ?_
  exact ⟨s, res, fin, rfl, q⟩
theorem rx_anodes (d : Nat) (x : RI h S V er tx n sm tn) : Mq mX9_andNodes (d + 6) [.ref 43] h (fun r h' => ∃ s res, FIN (rtK S n) s res ∧ qR h S V er tx n sm tn (.int (nI (rMany s false))) r h') := by
  have x0 := x
  obtain ⟨ic, nm, rm, hf, ht, rt, mm, il, sp, rdm, k43, -⟩ := x
  refine Mq_of [_] (by decide +kernel) rfl rfl ?_
  refine Rq_aload_n dX9_andNodes_0 rfl ?_
  refine Rq_iconst (0) dX9_andNodes_1 (by decide) ?_
  refine Rq_callVq [_] dX9_andNodes_2 clX9_166 rfl k43 (rx_many d false x0) rfl rfl rfl (fun rv h1 hq => ?_)
  obtain ⟨s, res, fin, rfl, q⟩ := hq
  refine Rq_iret dX9_andNodes_5 rfl ?_
  exact ⟨s, res, fin, rfl, q⟩
theorem fin_lt {l : List Int32} {s : St} {res : Nat} (x : FIN l s res) : res < 4096 := idOK_lt x.2.2.2.2.2.2.1 (by have := x.2.1; omega)
theorem rx_depth (d : Nat) (x : RI h S V er tx n sm tn) : Mq mX9_depth (d + 5) [.ref 43] h (fun r h' => ∃ dd, DpR (nvR (rtK S n) + 1) (rtK S n) dd ∧ qR h S V er tx n sm tn (.int (nI dd)) r h') := by
  have x0 := x
  obtain ⟨ic, nm, rm, hf, ht, rt, mm, il, sp, rdm, k43, -⟩ := x
  refine Mq_of [_] (by decide +kernel) rfl rfl ?_
  refine Rq_aload_n dX9_depth_0 rfl ?_
  refine Rq_callVq [] dX9_depth_1 clX9_163 rfl k43 (ri_comp d x0) rfl rfl rfl (fun rv h1 hq => ?_)
  obtain ⟨rfl, F, x1, s, res, rm', mm', il', sp', rdm', j43, j50, j51, j52, fin⟩ := hq
  have rl := fin_lt fin
  obtain ⟨dd, e1, e2, e3⟩ := fin.2.2.2.2.2.2.2
  by_cases c : res < 2
  · refine Rq_aload_n dX9_depth_4 rfl ?_
    refine Rq_get dX9_depth_5 flX9_160 j43 rfl ?_
    refine Rq_iconst (2) dX9_depth_8 (by decide) ?_
    refine Rq_icmp_ge_f 16 dX9_depth_9 (by decide) (nI_ge (b := 2) c (by decide)) ?_
    refine Rq_iconst (0) dX9_depth_12 (by decide) ?_
    refine Rq_goto 25 dX9_depth_13 (by decide) ?_
    refine Rq_iret dX9_depth_25 rfl ?_
    refine ⟨0, ?_, rfl, F, x1⟩
    have nt : ¬ ntR (rtK S n) := by
      rcases fin.2.2.2.2.2.2.1 with ⟨e, _⟩ | ⟨_, e, _⟩ | ⟨_, i, _, _, e⟩
      · exact fun z => z.1 e
      · exact fun z => z.2 e
      · omega
    exact Or.inl ⟨nt, rfl⟩
  · refine Rq_aload_n dX9_depth_4 rfl ?_
    refine Rq_get dX9_depth_5 flX9_160 j43 rfl ?_
    refine Rq_iconst (2) dX9_depth_8 (by decide) ?_
    refine Rq_icmp_ge_t 16 dX9_depth_9 (by decide) (nI_le (a := 2) (by omega) (by omega)) ?_
    refine Rq_aload_n dX9_depth_16 rfl ?_
    refine Rq_get dX9_depth_17 flX9_34 j43 rfl ?_
    refine Rq_aload_n dX9_depth_20 rfl ?_
    refine Rq_get dX9_depth_21 flX9_160 j43 rfl ?_
    refine Rq_iald res dX9_depth_24 j52 rl (by decide) rfl ?_
    refine Rq_iret dX9_depth_25 rfl ?_
    exact ⟨dd, e3, by rw [e1], F, x1⟩
/-- what rootVariable says of a row -/
def rvP (l : List Int32) (v : Int32) : Prop := (l = [] ∧ v = -1) ∨ (l ≠ [] ∧ l.getD 0 0 = 0 ∧ v = -2) ∨ (ntR l ∧ ∃ w, dvR l w ∧ v = nI w)
def cpP (l : List Int32) (v : Int32) : Prop := (¬ ntR l ∧ v = 0) ∨ (ntR l ∧ ∃ c, CtR l c ∧ v = nI c)
theorem rx_rootv (d : Nat) (x : RI h S V er tx n sm tn) : Mq mX9_rootVariable (d + 5) [.ref 43] h (fun r h' => ∃ v, rvP (rtK S n) v ∧ qR h S V er tx n sm tn (.int v) r h') := by
  have x0 := x
  obtain ⟨ic, nm, rm, hf, ht, rt, mm, il, sp, rdm, k43, -⟩ := x
  refine Mq_of [_] (by decide +kernel) rfl rfl ?_
  refine Rq_aload_n dX9_rootVariable_0 rfl ?_
  refine Rq_callVq [] dX9_rootVariable_1 clX9_163 rfl k43 (ri_comp d x0) rfl rfl rfl (fun rv h1 hq => ?_)
  obtain ⟨rfl, F, x1, s, res, rm', mm', il', sp', rdm', j43, j50, j51, j52, fin⟩ := hq
  have rl := fin_lt fin
  rcases fin.2.2.2.2.2.2.1 with ⟨e, rfl, _⟩ | ⟨e, e', rfl, _⟩ | ⟨e, i, hi, ei, rfl⟩
  · refine Rq_aload_n dX9_rootVariable_4 rfl ?_
    refine Rq_get dX9_rootVariable_5 flX9_160 j43 rfl ?_
    refine Rq_iconst (2) dX9_rootVariable_8 (by decide) ?_
    refine Rq_icmp_ge_f 21 dX9_rootVariable_9 (by decide) (nI_ge (a := 1) (b := 2) (by decide) (by decide)) ?_
    refine Rq_aload_n dX9_rootVariable_12 rfl ?_
    refine Rq_get dX9_rootVariable_13 flX9_160 j43 rfl ?_
    refine Rq_iconst (2) dX9_rootVariable_16 (by decide) ?_
    refine Rq_isub dX9_rootVariable_17 ?_
    refine Rq_goto 30 dX9_rootVariable_18 (by decide) ?_
    refine Rq_iret dX9_rootVariable_30 rfl ?_
    exact ⟨_, Or.inl ⟨e, by decide⟩, rfl, F, x1⟩
  · refine Rq_aload_n dX9_rootVariable_4 rfl ?_
    refine Rq_get dX9_rootVariable_5 flX9_160 j43 rfl ?_
    refine Rq_iconst (2) dX9_rootVariable_8 (by decide) ?_
    refine Rq_icmp_ge_f 21 dX9_rootVariable_9 (by decide) (nI_ge (a := 0) (b := 2) (by decide) (by decide)) ?_
    refine Rq_aload_n dX9_rootVariable_12 rfl ?_
    refine Rq_get dX9_rootVariable_13 flX9_160 j43 rfl ?_
    refine Rq_iconst (2) dX9_rootVariable_16 (by decide) ?_
    refine Rq_isub dX9_rootVariable_17 ?_
    refine Rq_goto 30 dX9_rootVariable_18 (by decide) ?_
    refine Rq_iret dX9_rootVariable_30 rfl ?_
    exact ⟨_, Or.inr (Or.inl ⟨e, e', by decide⟩), rfl, F, x1⟩
  · obtain ⟨v, dd, c, y1, y2, y3, y4, y5, y6, y7, y8⟩ := fin.2.2.2.1 i hi
    rw [ei] at y1
    refine Rq_aload_n dX9_rootVariable_4 rfl ?_
    refine Rq_get dX9_rootVariable_5 flX9_160 j43 rfl ?_
    refine Rq_iconst (2) dX9_rootVariable_8 (by decide) ?_
    refine Rq_icmp_ge_t 21 dX9_rootVariable_9 (by decide) (nI_le (a := 2) (by omega) (by omega)) ?_
    refine Rq_aload_n dX9_rootVariable_21 rfl ?_
    refine Rq_get dX9_rootVariable_22 flX9_28 j43 rfl ?_
    refine Rq_aload_n dX9_rootVariable_25 rfl ?_
    refine Rq_get dX9_rootVariable_26 flX9_160 j43 rfl ?_
    refine Rq_iald (i + 2) dX9_rootVariable_29 j50 rl (by decide) rfl ?_
    refine Rq_iret dX9_rootVariable_30 rfl ?_
    exact ⟨_, Or.inr (Or.inr ⟨e, v, y1, y2⟩), rfl, F, x1⟩
theorem rx_comps (d : Nat) (x : RI h S V er tx n sm tn) : Mq mX9_components (d + 5) [.ref 43] h (fun r h' => ∃ v, cpP (rtK S n) v ∧ qR h S V er tx n sm tn (.int v) r h') := by
  have x0 := x
  obtain ⟨ic, nm, rm, hf, ht, rt, mm, il, sp, rdm, k43, -⟩ := x
  refine Mq_of [_] (by decide +kernel) rfl rfl ?_
  refine Rq_aload_n dX9_components_0 rfl ?_
  refine Rq_callVq [] dX9_components_1 clX9_163 rfl k43 (ri_comp d x0) rfl rfl rfl (fun rv h1 hq => ?_)
  obtain ⟨rfl, F, x1, s, res, rm', mm', il', sp', rdm', j43, j50, j51, j52, fin⟩ := hq
  have rl := fin_lt fin
  rcases fin.2.2.2.2.2.2.1 with ⟨e, rfl, _⟩ | ⟨e, e', rfl, _⟩ | ⟨e, i, hi, ei, rfl⟩
  · refine Rq_aload_n dX9_components_4 rfl ?_
    refine Rq_get dX9_components_5 flX9_160 j43 rfl ?_
    refine Rq_iconst (2) dX9_components_8 (by decide) ?_
    refine Rq_icmp_ge_f 16 dX9_components_9 (by decide) (nI_ge (a := 1) (b := 2) (by decide) (by decide)) ?_
    refine Rq_iconst (0) dX9_components_12 (by decide) ?_
    refine Rq_goto 25 dX9_components_13 (by decide) ?_
    refine Rq_iret dX9_components_25 rfl ?_
    exact ⟨_, Or.inl ⟨fun z => z.1 e, rfl⟩, rfl, F, x1⟩
  · refine Rq_aload_n dX9_components_4 rfl ?_
    refine Rq_get dX9_components_5 flX9_160 j43 rfl ?_
    refine Rq_iconst (2) dX9_components_8 (by decide) ?_
    refine Rq_icmp_ge_f 16 dX9_components_9 (by decide) (nI_ge (a := 0) (b := 2) (by decide) (by decide)) ?_
    refine Rq_iconst (0) dX9_components_12 (by decide) ?_
    refine Rq_goto 25 dX9_components_13 (by decide) ?_
    refine Rq_iret dX9_components_25 rfl ?_
    exact ⟨_, Or.inl ⟨fun z => z.2 e', rfl⟩, rfl, F, x1⟩
  · obtain ⟨v, dd, c, y1, y2, y3, y4, y5, y6, y7, y8⟩ := fin.2.2.2.1 i hi
    rw [ei] at y4
    refine Rq_aload_n dX9_components_4 rfl ?_
    refine Rq_get dX9_components_5 flX9_160 j43 rfl ?_
    refine Rq_iconst (2) dX9_components_8 (by decide) ?_
    refine Rq_icmp_ge_t 16 dX9_components_9 (by decide) (nI_le (a := 2) (by omega) (by omega)) ?_
    refine Rq_aload_n dX9_components_16 rfl ?_
    refine Rq_get dX9_components_17 flX9_31 j43 rfl ?_
    refine Rq_aload_n dX9_components_20 rfl ?_
    refine Rq_get dX9_components_21 flX9_160 j43 rfl ?_
    refine Rq_iald (i + 2) dX9_components_24 j51 rl (by decide) rfl ?_
    refine Rq_iret dX9_components_25 rfl ?_
    exact ⟨_, Or.inr ⟨e, c, y4, y3⟩, rfl, F, x1⟩
/-! the models -/
theorem RI.ms (x : RI h S V er tx n sm tn) : ∃ ic nm rm hf ht rt sp rdm, RMs (nI sm) (nI tn) ic nm rm hf ht rt sp rdm S n h h ∧ S 0 = nI n ∧ n ≤ 16 ∧ h[46]? = some (aI 4 er) ∧ ∀ h', RMs (nI sm) (nI tn) ic nm rm hf ht rt sp rdm S n h h' → Fr mC h h' ∧ RI h' S V er tx n sm tn := by
  obtain ⟨ic, nm, rm, hf, ht, rt, mm, il, sp, rdm, k43, k44, s0, n16, sv, k45, sm5, vo, k46, k47, tl, rg, rmm, rc, k61⟩ := x
  refine ⟨ic, nm, rm, hf, ht, rt, sp, rdm, ⟨Fr.rfl', k44, mm, il, k43, rmm⟩, s0, n16, k46, ?_⟩
  rintro h' ⟨F, j44, mm', il', j43, y⟩
  exact ⟨F.mono (by decide), ic, nm, rm, hf, ht, rt, mm', il', sp, rdm, j43, F.at (by decide) k44, s0, n16, sv, F.at (by decide) k45, sm5, vo, F.at (by decide) k46, F.at (by decide) k47, tl, rg.ag (F.ag (by decide)), y, rc, F.at (by decide) k61⟩
theorem rx_models (d : Nat) (x : RI h S V er tx n sm tn) : Mq mX9_models (d + 3) [.ref 43] h (qR h S V er tx n sm tn (.int (nI (rBy S n 0)))) := by
  obtain ⟨ic, nm, rm, hf, ht, rt, sp, rdm, y, s0, n16, k46, back⟩ := x.ms
  obtain ⟨-, -, mm, il, k43, -⟩ := id y
  refine Mq_of [_] (by decide +kernel) rfl rfl ?_
  refine Rq_aload_n dX9_models_0 rfl ?_
  refine Rq_iconst (0) dX9_models_1 (by decide) ?_
  refine Rq_callVq [_] dX9_models_2 clX9_179 rfl k43 (y.by s0 n16 d 0) rfl rfl rfl (fun rv h1 hq => ?_)
  obtain ⟨rfl, y1⟩ := hq
  refine Rq_iret dX9_models_5 rfl ?_
  exact ⟨rfl, back h1 y1⟩
theorem rx_mwith_oor (d : Nat) {a : Int32} (x : RI h S V er tx n sm tn) (hc : ¬ isLitP a) : Mq mX9_modelsWith (d + 2) [.ref 43, .int a] h (qR h S V (upd er 0 (er 0 + 1)) tx n sm tn (.int (-2))) := by
  have y := x.err (upd er 0 (er 0 + 1))
  obtain ⟨ic, nm, rm, hf, ht, rt, sp, rdm, ⟨-, -, mm, il, k43, -⟩, s0, n16, k46, back⟩ := x.ms
  refine Mq_of [_, _] (by decide +kernel) rfl rfl ?_
  refine Rq_iload_n dX9_modelsWith_0 rfl ?_
  refine Rq_callS [_] dX9_modelsWith_1 clX9_104 (rp_isLit_f d h hc) rfl rfl rfl ?_
  refine Rq_if_eq_t 18 dX9_modelsWith_4 (by decide) rfl ?_
  refine Rq_aload_n dX9_modelsWith_18 rfl ?_
  refine Rq_bipush (-2) dX9_modelsWith_19 (by decide) ?_
  refine Rq_callV [_] dX9_modelsWith_21 clX9_84 rfl k43 (rp_err (d + 1) 0 (by decide) (-2) (by decide) k43 k46) rfl rfl rfl ?_
  refine Rq_iret dX9_modelsWith_24 rfl ?_
  exact ⟨rfl, Fr.set (by decide), y⟩
theorem rx_mwith (d : Nat) {a : Int32} (x : RI h S V er tx n sm tn) (hc : isLitP a) : Mq mX9_modelsWith (d + 3) [.ref 43, .int a] h (qR h S V er tx n sm tn (.int (nI (rBy S n (rBit a))))) := by
  obtain ⟨ic, nm, rm, hf, ht, rt, sp, rdm, y, s0, n16, k46, back⟩ := x.ms
  obtain ⟨-, -, mm, il, k43, -⟩ := id y
  refine Mq_of [_, _] (by decide +kernel) rfl rfl ?_
  refine Rq_iload_n dX9_modelsWith_0 rfl ?_
  refine Rq_callS [_] dX9_modelsWith_1 clX9_104 (rp_isLit_t (d + 1) h hc) rfl rfl rfl ?_
  refine Rq_if_eq_f 18 dX9_modelsWith_4 (by decide) (by decide) ?_
  refine Rq_aload_n dX9_modelsWith_7 rfl ?_
  refine Rq_iload_n dX9_modelsWith_8 rfl ?_
  refine Rq_callS [_] dX9_modelsWith_9 clX9_88 (rp_bitOf (d + 2) h a) rfl rfl rfl ?_
  refine Rq_callVq [_] dX9_modelsWith_12 clX9_179 rfl k43 (y.by s0 n16 d (rBit a)) rfl rfl rfl (fun rv h1 hq => ?_)
  obtain ⟨rfl, y1⟩ := hq
  refine Rq_goto 24 dX9_modelsWith_15 (by decide) ?_
  refine Rq_iret dX9_modelsWith_24 rfl ?_
  exact ⟨rfl, back h1 y1⟩
theorem rx_wcount (d : Nat) (x : RI h S V er tx n sm tn) : Mq mX9_weightedCount (d + 1) [.ref 43] h (qR h S V er tx n sm tn (.long (rWc S n 1024))) := by
  obtain ⟨ic, nm, rm, hf, ht, rt, sp, rdm, ⟨-, k44, mm, il, k43, -⟩, s0, n16, k46, back⟩ := x.ms
  refine Mq.mono (rp_wcount d k43 k44 s0 n16) ?_
  rintro r h' ⟨rfl, rfl⟩
  exact ⟨rfl, Fr.rfl', x⟩
theorem rx_impl (d : Nat) {sg : Int32} (hs : sg = 1 ∨ sg = -1) (x : RI h S V er tx n sm tn) : Mq mX9_implied (d + 1) [.ref 43, .int sg] h (qR h S V er tx n sm tn (.int (rIm S n sg 1024))) := by
  obtain ⟨ic, nm, rm, hf, ht, rt, sp, rdm, ⟨-, k44, mm, il, k43, -⟩, s0, n16, k46, back⟩ := x.ms
  refine Mq.mono (rp_impl d hs k43 k44 s0 n16) ?_
  rintro r h' ⟨rfl, rfl⟩
  exact ⟨rfl, Fr.rfl', x⟩
theorem rx_impl_oor (d : Nat) {a : Int32} (x : RI h S V er tx n sm tn) (h1 : ¬ a = 1) (h2 : ¬ a = -1) : Mq mX9_implied (d + 1) [.ref 43, .int a] h (qR h S V (upd er 0 (er 0 + 1)) tx n sm tn (.int (-2))) := by
  have y := x.err (upd er 0 (er 0 + 1))
  obtain ⟨ic, nm, rm, hf, ht, rt, sp, rdm, ⟨-, -, mm, il, k43, -⟩, s0, n16, k46, back⟩ := x.ms
  refine Mq_of [_, _, _, _] (by decide +kernel) rfl rfl ?_
  refine Rq_iload_n dX9_implied_0 rfl ?_
  refine Rq_iconst (1) dX9_implied_1 (by decide) ?_
  refine Rq_icmp_eq_f 17 dX9_implied_2 (by decide) h1 ?_
  refine Rq_iload_n dX9_implied_5 rfl ?_
  refine Rq_iconst (-1) dX9_implied_6 (by decide) ?_
  refine Rq_icmp_eq_f 17 dX9_implied_7 (by decide) h2 ?_
  refine Rq_aload_n dX9_implied_10 rfl ?_
  refine Rq_bipush (-2) dX9_implied_11 (by decide) ?_
  refine Rq_callV [_] dX9_implied_13 clX9_84 rfl k43 (rp_err d 0 (by decide) (-2) (by decide) k43 k46) rfl rfl rfl ?_
  refine Rq_iret dX9_implied_16 rfl ?_
  exact ⟨rfl, Fr.set (by decide), y⟩
theorem rx_least (d : Nat) (x : RI h S V er tx n sm tn) : Mq mX9_leastModel (d + 1) [.ref 43] h (qR h S V er tx n sm tn (.int (rLs S n 1024 0))) := by
  obtain ⟨ic, nm, rm, hf, ht, rt, sp, rdm, ⟨-, k44, mm, il, k43, -⟩, s0, n16, k46, back⟩ := x.ms
  refine Mq.mono (rp_least d k43 k44 s0 n16) ?_
  rintro r h' ⟨rfl, rfl⟩
  exact ⟨rfl, Fr.rfl', x⟩
theorem rx_expl_oor (d : Nat) {a i : Int32} (x : RI h S V er tx n sm tn) (hc : ¬ (isLitP a ∧ ¬ i < -1 ∧ i < 3)) : Mq mX9_explanation (d + 2) [.ref 43, .int a, .int i] h (qR h S V (upd er 0 (er 0 + 1)) tx n sm tn (.int (-102))) := by
  obtain ⟨ic, nm, rm, hf, ht, rt, sp, rdm, ⟨-, -, mm, il, k43, -⟩, s0, n16, k46, back⟩ := x.ms
  exact ⟨_, _, ⟨rfl, Fr.set (by decide), x.err _⟩, rp_expl_oor d hc k43 k46⟩
theorem rx_expl (d : Nat) {a : Int32} {ix : Option Nat} (x : RI h S V er tx n sm tn) (hc : isLitP a) (hi : ∀ j, ix = some j → j < 3) : Mq mX9_explanation (d + 6) [.ref 43, .int a, .int (ixI ix)] h (qR h S V er tx n sm tn (.int (exAns (rXpl S n a) ix))) := by
  obtain ⟨ic, nm, rm, hf, ht, rt, sp, rdm, y, s0, n16, k46, back⟩ := x.ms
  refine Mq.mono (rp_expl d hc hi s0 n16 y) ?_
  rintro r h' ⟨rfl, z⟩
  exact ⟨rfl, back h' z⟩
end RF
