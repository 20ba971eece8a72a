/-! the reference's methods: text, undo, errors -/
section RF
variable {h : Hp} {S V er tx : Nat → Int32} {n sm tn : Nat}
theorem RI.txt (x : RI h S V er tx n sm tn) {h' : Hp} {tx' : Nat → Int32} {tn' : Nat} {ic nm rm hf ht rt mm il sp rdm : Int32} (k43 : h[43]? = some (obM (nI sm) (nI tn) ic nm rm hf ht rt mm il sp rdm)) (F : Fr [43, 47] h h') (j43 : h'[43]? = some (obM (nI sm) (nI tn') ic nm rm hf ht rt mm il sp rdm)) (j47 : h'[47]? = some (aI 150 tx')) (ht' : tn' ≤ 150) : Fr mC h h' ∧ RI h' S V er tx' n sm tn' := by
  obtain ⟨ic1, nm1, rm1, hf1, ht1, rt1, mm1, il1, sp1, rdm1, k43', k44, s0, n16, sv, k45, sm5, vo, k46, k47, tl, rg, rmm, rc, k61⟩ := x
  rw [k43] at k43'
  injection k43' with e
  injection e with e
  injection e with _ e
  simp only [List.cons.injEq, Value.int.injEq, true_and, and_true] at e
  obtain ⟨e1, e2, e3, e4, e5, e6, e7, e8, e9, e10⟩ := e
  subst e1 e2 e3 e4 e5 e6 e7 e8 e9 e10
  exact ⟨F.mono (by decide), _, _, _, _, _, _, _, _, _, _, j43, F.at (by decide) k44, s0, n16, sv, F.at (by decide) k45, sm5, vo, F.at (by decide) k46, j47, ht', rg.ag (F.ag (by decide)), rmm.at (F.2 60 (by decide)), rc, F.at (by decide) k61⟩
theorem rx_app_oor (d : Nat) {v : Int32} (x : RI h S V er tx n sm tn) (hc : ¬ (¬ v < 0 ∧ v ≤ 127)) : Mq mX9_append (d + 2) [.ref 43, .int v] h (qR h S V (upd er 0 (er 0 + 1)) tx n sm tn (.int (-2))) := by
  have y := x.err (upd er 0 (er 0 + 1))
  obtain ⟨ic, nm, rm, hf, ht, rt, mm, il, sp, rdm, k43, k44, s0, n16, sv, sm5, k46, -⟩ := x.k43
  refine Mq_of [_, _] (by decide +kernel) rfl rfl ?_
  refine Rq_iload_n dX9_append_0 rfl ?_
  refine Rq_i2l dX9_append_1 ?_
  refine Rq_lconst (0) dX9_append_2 (by decide) ?_
  refine Rq_ldc2 dX9_append_3 kcX9_217 ?_
  refine Rq_callS [_, _, _] dX9_append_6 clX9_69 (rp_in_f (d + 1) h (fun q => hc ⟨(Int32.not_lt.mpr (le64.mp (show (0 : Int32).toInt64 ≤ _ from q.1))), le64.mp (show _ ≤ (127 : Int32).toInt64 from q.2)⟩)) rfl rfl rfl ?_
  refine Rq_if_ne_f 19 dX9_append_9 (by decide) rfl ?_
  refine Rq_aload_n dX9_append_12 rfl ?_
  refine Rq_bipush (-2) dX9_append_13 (by decide) ?_
  refine Rq_callV [_] dX9_append_15 clX9_84 rfl k43 (rp_err (d + 1) 0 (by decide) (-2) (by decide) k43 k46) rfl rfl rfl ?_
  refine Rq_iret dX9_append_18 rfl ?_
  exact ⟨rfl, Fr.set (by decide), y⟩
theorem rx_app_full (d : Nat) {v : Int32} (x : RI h S V er tx n sm tn) (h1 : ¬ v < 0) (h2 : v ≤ 127) (hn : tn = 150) : Mq mX9_append (d + 2) [.ref 43, .int v] h (qR h S V (upd er 2 (er 2 + 1)) tx n sm tn (.int (-4))) := by
  have y := x.err (upd er 2 (er 2 + 1))
  obtain ⟨ic, nm, rm, hf, ht, rt, mm, il, sp, rdm, k43, k44, s0, n16, sv, sm5, k46, -⟩ := x.k43
  subst hn
  refine Mq_of [_, _] (by decide +kernel) rfl rfl ?_
  refine Rq_iload_n dX9_append_0 rfl ?_
  refine Rq_i2l dX9_append_1 ?_
  refine Rq_lconst (0) dX9_append_2 (by decide) ?_
  refine Rq_ldc2 dX9_append_3 kcX9_217 ?_
  refine Rq_callS [_, _, _] dX9_append_6 clX9_69 (rp_in_t (d + 1) h (show (0 : Int32).toInt64 ≤ _ from le64.mpr (Int32.not_lt.mp h1)) (show _ ≤ (127 : Int32).toInt64 from le64.mpr h2)) rfl rfl rfl ?_
  refine Rq_if_ne_t 19 dX9_append_9 (by decide) (by decide) ?_
  refine Rq_aload_n dX9_append_19 rfl ?_
  refine Rq_get dX9_append_20 flX9_219 k43 rfl ?_
  refine Rq_sipush (150) dX9_append_23 (by decide) ?_
  refine Rq_icmp_ne_f 36 dX9_append_26 (by decide) rfl ?_
  refine Rq_aload_n dX9_append_29 rfl ?_
  refine Rq_bipush (-4) dX9_append_30 (by decide) ?_
  refine Rq_callV [_] dX9_append_32 clX9_84 rfl k43 (rp_err (d + 1) 2 (by decide) (-4) (by decide) k43 k46) rfl rfl rfl ?_
  refine Rq_iret dX9_append_35 rfl ?_
  exact ⟨rfl, Fr.set (by decide), y⟩
theorem rx_app (d : Nat) {v : Int32} (x : RI h S V er tx n sm tn) (h1 : ¬ v < 0) (h2 : v ≤ 127) (hn : tn < 150) : Mq mX9_append (d + 2) [.ref 43, .int v] h (qR h S V er (upd tx tn v) n sm (tn + 1) (.int (nI (tn + 1)))) := by
  obtain ⟨ic, nm, rm, hf, ht, rt, mm, il, sp, rdm, k43, k44, s0, n16, sv, sm5, k46, k47, tl, ⟨rc, k61⟩, k45, vo⟩ := x.k43
  have i43 := hNs (e' := aI 150 (upd tx tn v)) (by decide : (47 : Nat) ≠ 43) k43
  refine Mq_of [_, _] (by decide +kernel) rfl rfl ?_
  refine Rq_iload_n dX9_append_0 rfl ?_
  refine Rq_i2l dX9_append_1 ?_
  refine Rq_lconst (0) dX9_append_2 (by decide) ?_
  refine Rq_ldc2 dX9_append_3 kcX9_217 ?_
  refine Rq_callS [_, _, _] dX9_append_6 clX9_69 (rp_in_t (d + 1) h (show (0 : Int32).toInt64 ≤ _ from le64.mpr (Int32.not_lt.mp h1)) (show _ ≤ (127 : Int32).toInt64 from le64.mpr h2)) rfl rfl rfl ?_
  refine Rq_if_ne_t 19 dX9_append_9 (by decide) (by decide) ?_
  refine Rq_aload_n dX9_append_19 rfl ?_
  refine Rq_get dX9_append_20 flX9_219 k43 rfl ?_
  refine Rq_sipush (150) dX9_append_23 (by decide) ?_
  refine Rq_icmp_ne_t 36 dX9_append_26 (by decide) (fun z => absurd ((nI_eq (b := 150) (by omega) (by decide)).mp z) (by omega)) ?_
  refine Rq_aload_n dX9_append_36 rfl ?_
  refine Rq_get dX9_append_37 flX9_19 k43 rfl ?_
  refine Rq_aload_n dX9_append_40 rfl ?_
  refine Rq_get dX9_append_41 flX9_219 k43 rfl ?_
  refine Rq_iload_n dX9_append_44 rfl ?_
  refine Rq_iast tn dX9_append_45 k47 hn (by decide) rfl ?_
  refine Rq_aload_n dX9_append_46 rfl ?_
  refine Rq_dup dX9_append_47 rfl ?_
  refine Rq_get dX9_append_48 flX9_219 i43 rfl ?_
  refine Rq_iconst (1) dX9_append_51 (by decide) ?_
  refine Rq_iadd dX9_append_52 ?_
  refine Rq_put [_, _, _, _, _, _, _, _, _, _, _, _, _, _, _, _, _, _, _, _, _, _, _, _, _, _, _, _, _, _] dX9_append_53 fpX9_219 i43 rfl (okv_i _) rfl ?_
  rw [nI_1]
  have l43 := hS (obM (nI sm) (nI (tn + 1)) ic nm rm hf ht rt mm il sp rdm) i43
  have y := x.txt k43 ((Fr.set (by decide)).trans (Fr.set (by decide))) l43 (hNs (by decide) (hS _ k47)) hn
  refine Rq_aload_n dX9_append_56 rfl ?_
  refine Rq_get dX9_append_57 flX9_219 l43 rfl ?_
  refine Rq_iret dX9_append_60 rfl ?_
  exact ⟨rfl, y⟩
theorem rx_clr (d : Nat) (x : RI h S V er tx n sm tn) : Mq mX9_clearText d [.ref 43] h (qR h S V er tx n sm 0 (.int (nI tn))) := by
  obtain ⟨ic, nm, rm, hf, ht, rt, mm, il, sp, rdm, k43, k44, s0, n16, sv, sm5, k46, k47, tl, ⟨rc, k61⟩, k45, vo⟩ := x.k43
  refine Mq_of [_, _] (by decide +kernel) rfl rfl ?_
  refine Rq_aload_n dX9_clearText_0 rfl ?_
  refine Rq_get dX9_clearText_1 flX9_219 k43 rfl ?_
  refine Rq_istore_n [_, _] dX9_clearText_4 rfl rfl rfl ?_
  refine Rq_aload_n dX9_clearText_5 rfl ?_
  refine Rq_iconst (0) dX9_clearText_6 (by decide) ?_
  refine Rq_put [_, _, _, _, _, _, _, _, _, _, _, _, _, _, _, _, _, _, _, _, _, _, _, _, _, _, _, _, _, _] dX9_clearText_7 fpX9_219 k43 rfl (okv_i _) rfl ?_
  refine Rq_iload_n dX9_clearText_10 rfl ?_
  refine Rq_iret dX9_clearText_11 rfl ?_
  exact ⟨rfl, x.txt k43 (Fr.set (by decide)) (hS _ k43) (hNs (by decide) k47) (Nat.zero_le _)⟩
theorem rx_ec_oor (d : Nat) {v : Int32} (x : RI h S V er tx n sm tn) (hc : ¬ (-6 < v ∧ v ≤ -2)) : Mq mX9_errorCount (d + 2) [.ref 43, .int v] h (qR h S V (upd er 0 (er 0 + 1)) tx n sm tn (.int (-2))) := by
  have y := x.err (upd er 0 (er 0 + 1))
  obtain ⟨ic, nm, rm, hf, ht, rt, mm, il, sp, rdm, k43, k44, s0, n16, sv, sm5, k46, -⟩ := x.k43
  have z : ¬ (-5 ≤ v ∧ v ≤ -2) := fun q => hc ⟨by
    have := q.1
    rw [Int32.le_iff_toInt_le, show (-5 : Int32).toInt = -5 from rfl] at this
    rw [Int32.lt_iff_toInt_lt, show (-6 : Int32).toInt = -6 from rfl]
    omega, q.2⟩
  refine Mq_of [_, _] (by decide +kernel) rfl rfl ?_
  refine Rq_iload_n dX9_errorCount_0 rfl ?_
  refine Rq_i2l dX9_errorCount_1 ?_
  refine Rq_ldc2 dX9_errorCount_2 kcX9_244 ?_
  refine Rq_ldc2 dX9_errorCount_5 kcX9_246 ?_
  refine Rq_callS [_, _, _] dX9_errorCount_8 clX9_69 (rp_in_f (d + 1) h (fun q => z ⟨le64.mp (show (-5 : Int32).toInt64 ≤ _ from q.1), le64.mp (show _ ≤ (-2 : Int32).toInt64 from q.2)⟩)) rfl rfl rfl ?_
  refine Rq_if_eq_t 26 dX9_errorCount_11 (by decide) rfl ?_
  refine Rq_aload_n dX9_errorCount_26 rfl ?_
  refine Rq_bipush (-2) dX9_errorCount_27 (by decide) ?_
  refine Rq_callV [_] dX9_errorCount_29 clX9_84 rfl k43 (rp_err (d + 1) 0 (by decide) (-2) (by decide) k43 k46) rfl rfl rfl ?_
  refine Rq_iret dX9_errorCount_32 rfl ?_
  exact ⟨rfl, Fr.set (by decide), y⟩
theorem rx_ec (d : Nat) {v : Int32} {j : Nat} (x : RI h S V er tx n sm tn) (hj : j < 4) (hv : v = -2 - nI j) : Mq mX9_errorCount (d + 2) [.ref 43, .int v] h (qR h S V er tx n sm tn (.int (er j))) := by
  obtain ⟨ic, nm, rm, hf, ht, rt, mm, il, sp, rdm, k43, k44, s0, n16, sv, sm5, k46, -⟩ := x.k43
  have e : -5 ≤ v ∧ v ≤ -2 ∧ -2 - v = nI j := by
    have hj' : j = 0 ∨ j = 1 ∨ j = 2 ∨ j = 3 := by omega
    rcases hj' with e | e | e | e <;> subst e <;> subst hv <;> decide
  refine Mq_of [_, _] (by decide +kernel) rfl rfl ?_
  refine Rq_iload_n dX9_errorCount_0 rfl ?_
  refine Rq_i2l dX9_errorCount_1 ?_
  refine Rq_ldc2 dX9_errorCount_2 kcX9_244 ?_
  refine Rq_ldc2 dX9_errorCount_5 kcX9_246 ?_
  refine Rq_callS [_, _, _] dX9_errorCount_8 clX9_69 (rp_in_t (d + 1) h (show (-5 : Int32).toInt64 ≤ _ from le64.mpr e.1) (show _ ≤ (-2 : Int32).toInt64 from le64.mpr e.2.1)) rfl rfl rfl ?_
  refine Rq_if_eq_f 26 dX9_errorCount_11 (by decide) (by decide) ?_
  refine Rq_aload_n dX9_errorCount_14 rfl ?_
  refine Rq_get dX9_errorCount_15 flX9_16 k43 rfl ?_
  refine Rq_bipush (-2) dX9_errorCount_18 (by decide) ?_
  refine Rq_iload_n dX9_errorCount_20 rfl ?_
  refine Rq_isub dX9_errorCount_21 ?_
  refine Rq_iald j dX9_errorCount_22 k46 hj (by decide) e.2.2 ?_
  refine Rq_goto 32 dX9_errorCount_23 (by decide) ?_
  refine Rq_iret dX9_errorCount_32 rfl ?_
  exact ⟨rfl, Fr.rfl', x⟩
theorem rx_undo_no (d : Nat) (x : RI h S V er tx n 0 tn) : Mq mX9_undo (d + 2) [.ref 43] h (qR h S V (upd er 3 (er 3 + 1)) tx n 0 tn (.int (-5))) := by
  have y := x.err (upd er 3 (er 3 + 1))
  obtain ⟨ic, nm, rm, hf, ht, rt, mm, il, sp, rdm, k43, k44, s0, n16, sv, sm5, k46, -⟩ := x.k43
  refine Mq_of [_, _] (by decide +kernel) rfl rfl ?_
  refine Rq_aload_n dX9_undo_0 rfl ?_
  refine Rq_get dX9_undo_1 flX9_73 k43 rfl ?_
  refine Rq_if_ne_f 14 dX9_undo_4 (by decide) rfl ?_
  refine Rq_aload_n dX9_undo_7 rfl ?_
  refine Rq_bipush (-5) dX9_undo_8 (by decide) ?_
  refine Rq_callV [_] dX9_undo_10 clX9_84 rfl k43 (rp_err (d + 1) 3 (by decide) (-5) (by decide) k43 k46) rfl rfl rfl ?_
  refine Rq_iret dX9_undo_13 rfl ?_
  exact ⟨rfl, Fr.set (by decide), y⟩
def undS (S V : Nat → Int32) (m : Nat) : Nat → Int32 := fb_put S (fun k => V (39 * m + k)) 0 39
theorem rx_undo (d : Nat) {m k : Nat} (x : RI h S V er tx n (k + 1) tn) (hm : m ≤ 16) (hs : V (39 * k) = nI m) : Mq mX9_undo (d + 2) [.ref 43] h (qR h (undS S V k) V er tx m k tn (.int (nI k))) := by
  have x0 := x
  obtain ⟨ic, nm, rm, hf, ht, rt, mm, il, sp, rdm, k43, k44, s0, n16, sv, sm5, k46, k47, tl, ⟨rc, k61⟩, k45, vo⟩ := x.k43
  have ne : ¬ nI (k + 1) = 0 := fun z => absurd ((nI_eq (a := k + 1) (b := 0) (by omega) (by decide)).mp z) (by omega)
  refine Mq_of [_, _] (by decide +kernel) rfl rfl ?_
  refine Rq_aload_n dX9_undo_0 rfl ?_
  refine Rq_get dX9_undo_1 flX9_73 k43 rfl ?_
  refine Rq_if_ne_t 14 dX9_undo_4 (by decide) ne ?_
  refine Rq_aload_n dX9_undo_14 rfl ?_
  refine Rq_dup dX9_undo_15 rfl ?_
  refine Rq_get dX9_undo_16 flX9_73 k43 rfl ?_
  refine Rq_iconst (1) dX9_undo_19 (by decide) ?_
  refine Rq_isub dX9_undo_20 ?_
  refine Rq_put [_, _, _, _, _, _, _, _, _, _, _, _, _, _, _, _, _, _, _, _, _, _, _, _, _, _, _, _, _, _] dX9_undo_21 fpX9_73 k43 rfl (okv_i _) rfl ?_
  rw [nI_pred]
  have b43 := hS (obM (nI k) (nI tn) ic nm rm hf ht rt mm il sp rdm) k43
  have b44 := hNs (e' := obM (nI k) (nI tn) ic nm rm hf ht rt mm il sp rdm) (by decide : (43 : Nat) ≠ 44) k44
  have b45 := hNs (e' := obM (nI k) (nI tn) ic nm rm hf ht rt mm il sp rdm) (by decide : (43 : Nat) ≠ 45) k45
  have b61 := hNs (e' := obM (nI k) (nI tn) ic nm rm hf ht rt mm il sp rdm) (by decide : (43 : Nat) ≠ 61) k61
  have F : Fr [43] h (h.set 43 (obM (nI k) (nI tn) ic nm rm hf ht rt mm il sp rdm)) := Fr.set (by decide)
  generalize h.set 43 (obM (nI k) (nI tn) ic nm rm hf ht rt mm il sp rdm) = h1 at b43 b44 b45 b61 F ⊢
  have u0 : undS S V k 0 = nI m := by
    unfold undS
    rw [fb_put_in (by decide) (by decide)]
    exact hs
  have ok := vo k (by omega)
  obtain ⟨m', m16', e1, e2⟩ := ok
  have em : m' = m := (nI_eq (a := m') (b := m) (by omega) (by omega)).mp (e1.symm.trans hs)
  subst em
  have uv : ∀ j, j < m' → vW (undS S V k (1 + j)) := fun j hj => by
    unfold undS
    rw [fb_put_in (Nat.zero_le _) (by omega)]
    exact e2 j hj
  have loop : ∀ (j i : Nat), i + j = 39 → Rq mX9_undo (d + 2) 26 [.ref 43, .int (nI i)] [] (h1.set 44 (aI 39 (fb_put S (fun j => V (39 * k + j)) 0 i))) (qR h (undS S V k) V er tx m' k tn (.int (nI k))) := by
    intro j
    induction j with
    | zero =>
      intro i hi
      have e : i = 39 := by omega
      subst e
      show Rq _ _ _ _ _ (h1.set 44 (aI 39 (undS S V k))) _
      have a43 := hNs (e' := aI 39 (undS S V k)) (by decide : (44 : Nat) ≠ 43) b43
      have a44 := hS (aI 39 (undS S V k)) b44
      refine Rq_iload_n dX9_undo_26 rfl ?_
      refine Rq_bipush (39) dX9_undo_27 (by decide) ?_
      refine Rq_icmp_ge_t 58 dX9_undo_29 (by decide) (nI_le (a := 39) (b := 39) (Nat.le_refl _) (by decide)) ?_
      refine Rq_aload_n dX9_undo_58 rfl ?_
      refine Rq_iconst (0) dX9_undo_59 (by decide) ?_
      refine Rq_put [_, _, _, _, _, _, _, _, _, _, _, _, _, _, _, _, _, _, _, _, _, _, _, _, _, _, _, _, _, _] dX9_undo_60 fpX9_77 a43 rfl okv_0 rfl ?_
      have c43 := hS (obM (nI k) (nI tn) 0 nm rm hf ht rt mm il sp rdm) a43
      refine Rq_aload_n dX9_undo_63 rfl ?_
      refine Rq_iconst (0) dX9_undo_64 (by decide) ?_
      refine Rq_put [_, _, _, _, _, _, _, _, _, _, _, _, _, _, _, _, _, _, _, _, _, _, _, _, _, _, _, _, _, _] dX9_undo_65 fpX9_81 c43 rfl okv_0 rfl ?_
      rw [List.set_set]
      have d43 := hS (obM (nI k) (nI tn) 0 nm rm hf ht rt mm 0 sp rdm) a43
      refine Rq_aload_n dX9_undo_68 rfl ?_
      refine Rq_get dX9_undo_69 flX9_73 d43 rfl ?_
      refine Rq_iret dX9_undo_72 rfl ?_
      have F2 : Fr [43, 44, 45, 61] h (((h1.set 44 (aI 39 (undS S V k))).set 43 (obM (nI k) (nI tn) 0 nm rm hf ht rt mm 0 sp rdm))) := (F.mono (by decide)).trans (Fr.trans (Fr.set (by decide)) (Fr.set (by decide)))
      have y := x0.chg F2 d43 (hNs (by decide) a44) u0 hm uv (hNs (by decide) (hNs (by decide) b45)) (by omega) (fun i hi => vo i (by omega)) ⟨rc, hNs (by decide) (hNs (by decide) b61)⟩
      exact ⟨rfl, y⟩
    | succ j ih =>
      intro i hi
      have q := ih (i + 1) (by omega)
      have s := fb_put_succ S (fun j => V (39 * k + j)) 0 i
      rw [Nat.zero_add] at s
      rw [← s] at q
      have a43 := hNs (e' := aI 39 (fb_put S (fun j => V (39 * k + j)) 0 i)) (by decide : (44 : Nat) ≠ 43) b43
      have a44 := hS (aI 39 (fb_put S (fun j => V (39 * k + j)) 0 i)) b44
      have a45 := hNs (e' := aI 39 (fb_put S (fun j => V (39 * k + j)) 0 i)) (by decide : (44 : Nat) ≠ 45) b45
      refine Rq_iload_n dX9_undo_26 rfl ?_
      refine Rq_bipush (39) dX9_undo_27 (by decide) ?_
      refine Rq_icmp_ge_f 58 dX9_undo_29 (by decide) (nI_ge (a := i) (b := 39) (by omega) (by decide)) ?_
      refine Rq_aload_n dX9_undo_32 rfl ?_
      refine Rq_get dX9_undo_33 flX9_7 a43 rfl ?_
      refine Rq_iload_n dX9_undo_36 rfl ?_
      refine Rq_aload_n dX9_undo_37 rfl ?_
      refine Rq_get dX9_undo_38 flX9_13 a43 rfl ?_
      refine Rq_bipush (39) dX9_undo_41 (by decide) ?_
      refine Rq_aload_n dX9_undo_43 rfl ?_
      refine Rq_get dX9_undo_44 flX9_73 a43 rfl ?_
      refine Rq_imul dX9_undo_47 ?_
      refine Rq_iload_n dX9_undo_48 rfl ?_
      refine Rq_iadd dX9_undo_49 ?_
      refine Rq_iald (39 * k + i) dX9_undo_50 a45 (by omega) (by decide) (ixm 39 k i) ?_
      refine Rq_iast i dX9_undo_51 a44 (by omega) (by decide) rfl ?_
      rw [List.set_set]
      refine Rq_iinc [_, _] (1) dX9_undo_52 rfl (by decide) rfl rfl rfl ?_
      refine Rq_goto 26 dX9_undo_55 (by decide) ?_
      rw [nI_1]
      exact q
  have q := loop 39 0 rfl
  rw [fb_put_0, hset_same b44] at q
  refine Rq_iconst (0) dX9_undo_24 (by decide) ?_
  refine Rq_istore_n [_, _] dX9_undo_25 rfl rfl rfl ?_
  exact q
end RF
