/-! heaps: one cell written, others kept -/
theorem hS {h : Hp} {k : Nat} {e : va_E} (e' : va_E) (hk : h[k]? = some e) : (h.set k e')[k]? = some e' := by
  rw [List.getElem?_set, if_pos rfl, if_pos (List.getElem?_eq_some_iff.mp hk).1]
theorem ex_and {α : Type} {P Q : α → Prop} (x : α) (h1 : P x) (h2 : Q x) : ∃ x, P x ∧ Q x := ⟨x, h1, h2⟩
theorem hN {h : Hp} {k j : Nat} {e' : va_E} (hj : k ≠ j) : (h.set k e')[j]? = h[j]? := List.getElem?_set_ne hj
theorem hNs {h : Hp} {k j : Nat} {e e' : va_E} (hj : k ≠ j) (h1 : h[j]? = some e) : (h.set k e')[j]? = some e := by rw [hN hj]; exact h1
def Fr (S : List Nat) (h h' : Hp) : Prop := h'.length = h.length ∧ ∀ k, k ∉ S → h'[k]? = h[k]?
theorem Fr.rfl' {S : List Nat} {h : Hp} : Fr S h h := ⟨rfl, fun _ _ => rfl⟩
theorem Fr.set {S : List Nat} {h : Hp} {a : Nat} {e : va_E} (ha : a ∈ S) : Fr S h (h.set a e) := ⟨List.length_set, fun _ hk => hN (fun z => hk (z ▸ ha))⟩
theorem Fr.trans {S : List Nat} {h h1 h2 : Hp} (x : Fr S h h1) (y : Fr S h1 h2) : Fr S h h2 := ⟨y.1.trans x.1, fun k hk => (y.2 k hk).trans (x.2 k hk)⟩
theorem Fr.mono {S T : List Nat} {h h1 : Hp} (x : Fr S h h1) (hs : ∀ k, k ∈ S → k ∈ T) : Fr T h h1 := ⟨x.1, fun k hk => x.2 k (fun z => hk (hs k z))⟩
theorem Fr.at {S : List Nat} {h h1 : Hp} (x : Fr S h h1) {k : Nat} {e : va_E} (hk : k ∉ S) (he : h[k]? = some e) : h1[k]? = some e := (x.2 k hk).trans he
def fillf {α : Type} (f : Nat → α) (i : Nat) (v : α) : Nat → α := fun j => if j < i then v else f j
theorem fillf_0 {α : Type} (f : Nat → α) (v : α) : fillf f 0 v = f := by funext j; simp [fillf]
theorem fillf_s (f : Nat → Int32) (i : Nat) (v : Int32) : upd (fillf f i v) i v = fillf f (i + 1) v := by
  funext j
  simp only [upd, fillf]
  by_cases h1 : j = i
  · subst h1; simp
  · by_cases h2 : j < i
    · rw [if_neg h1, if_pos h2, if_pos (by omega)]
    · rw [if_neg h1, if_neg h2, if_neg (by omega)]
theorem fillf_sL (f : Nat → Int64) (i : Nat) (v : Int64) : vp_updL (fillf f i v) i v = fillf f (i + 1) v := by
  funext j
  simp only [vp_updL, fillf]
  by_cases h1 : j = i
  · subst h1; simp
  · by_cases h2 : j < i
    · rw [if_neg h1, if_pos h2, if_pos (by omega)]
    · rw [if_neg h1, if_neg h2, if_neg (by omega)]
theorem fill_loop (d : Nat) (h : Hp) {a n : Nat} {f : Nat → Int32} (v : Int32) (ha : h[a]? = some (aI n f)) (hn : n < 2 ^ 31) : ∀ (k i : Nat), i + k = n → Rx mJ7_fill_53178 d 5 [.ref a, .int v, .int (nI i), .int (nI n)] [] (h.set a (aI n (fillf f i v))) none (h.set a (aI n (fillf f n v))) := by
  intro k
  induction k with
  | zero =>
    intro i hi
    have e : i = n := by omega
    subst e
    refine Rx_iload_n dJ7_fill_53178_5 rfl ?_
    refine Rx_iload_n dJ7_fill_53178_6 rfl ?_
    refine Rx_icmp_ge_t 20 dJ7_fill_53178_7 (by decide) (nI_le (Nat.le_refl _) hn) ?_
    exact Rx_vret dJ7_fill_53178_20 rfl
  | succ k ih =>
    intro i hi
    refine Rx_iload_n dJ7_fill_53178_5 rfl ?_
    refine Rx_iload_n dJ7_fill_53178_6 rfl ?_
    refine Rx_icmp_ge_f 20 dJ7_fill_53178_7 (by decide) (nI_ge (by omega) hn) ?_
    refine Rx_aload_n dJ7_fill_53178_10 rfl ?_
    refine Rx_iload_n dJ7_fill_53178_11 rfl ?_
    refine Rx_iload_n dJ7_fill_53178_12 rfl ?_
    refine Rx_iast i dJ7_fill_53178_13 (hS _ ha) (by omega) hn rfl ?_
    rw [List.set_set, fillf_s]
    refine Rx_iinc [_, _, _, _] (1) dJ7_fill_53178_14 rfl (by decide) rfl rfl rfl ?_
    refine Rx_goto 5 dJ7_fill_53178_17 (by decide) ?_
    rw [nI_1]
    exact ih (i + 1) (by omega)
theorem sp_fill (d : Nat) {h : Hp} {a n : Nat} {f : Nat → Int32} (v : Int32) (ha : h[a]? = some (aI n f)) (hn : n < 2 ^ 31) : Mx mJ7_fill_53178 d [.ref a, .int v] h none (h.set a (aI n (fillf f n v))) := by
  refine Mx_of [_, _, _, _] (by decide +kernel) rfl rfl ?_
  refine Rx_iconst (0) dJ7_fill_53178_0 (by decide) ?_
  refine Rx_istore_n [_, _, _, _] dJ7_fill_53178_1 rfl rfl rfl ?_
  refine Rx_aload_n dJ7_fill_53178_2 rfl ?_
  refine Rx_alenI dJ7_fill_53178_3 ha ?_
  refine Rx_istore_n [_, _, _, _] dJ7_fill_53178_4 rfl rfl rfl ?_
  have := fill_loop d h v ha hn n 0 (by omega)
  rw [fillf_0, show h.set a (aI n f) = h from by
    apply List.ext_getElem?
    intro k
    by_cases hk : a = k
    · subst hk; rw [hS _ ha]; exact ha.symm
    · rw [hN hk]] at this
  exact this
theorem fillL_loop (d : Nat) (h : Hp) {a n : Nat} {f : Nat → Int64} (v : Int64) (ha : h[a]? = some (aL n f)) (hn : n < 2 ^ 31) : ∀ (k i : Nat), i + k = n → Rx mJ7_fill_d0a16 d 6 [.ref a, .long v, .retAddr 0, .int (nI i), .int (nI n)] [] (h.set a (aL n (fillf f i v))) none (h.set a (aL n (fillf f n v))) := by
  intro k
  induction k with
  | zero =>
    intro i hi
    have e : i = n := by omega
    subst e
    refine Rx_iload_n dJ7_fill_d0a16_6 rfl ?_
    refine Rx_iload dJ7_fill_d0a16_7 rfl ?_
    refine Rx_icmp_ge_t 22 dJ7_fill_d0a16_9 (by decide) (nI_le (Nat.le_refl _) hn) ?_
    exact Rx_vret dJ7_fill_d0a16_22 rfl
  | succ k ih =>
    intro i hi
    refine Rx_iload_n dJ7_fill_d0a16_6 rfl ?_
    refine Rx_iload dJ7_fill_d0a16_7 rfl ?_
    refine Rx_icmp_ge_f 22 dJ7_fill_d0a16_9 (by decide) (nI_ge (by omega) hn) ?_
    refine Rx_aload_n dJ7_fill_d0a16_12 rfl ?_
    refine Rx_iload_n dJ7_fill_d0a16_13 rfl ?_
    refine Rx_lload_n dJ7_fill_d0a16_14 rfl ?_
    refine Rx_last i dJ7_fill_d0a16_15 (hS _ ha) (by omega) hn rfl ?_
    rw [List.set_set, fillf_sL]
    refine Rx_iinc [_, _, _, _, _] (1) dJ7_fill_d0a16_16 rfl (by decide) rfl rfl rfl ?_
    refine Rx_goto 6 dJ7_fill_d0a16_19 (by decide) ?_
    rw [nI_1]
    exact ih (i + 1) (by omega)
theorem hset_id {h : Hp} {a : Nat} {e : va_E} (ha : h[a]? = some e) : h.set a e = h := by
  apply List.ext_getElem?
  intro k
  by_cases hk : a = k
  · subst hk; rw [hS _ ha]; exact ha.symm
  · rw [hN hk]
theorem sp_fillL (d : Nat) {h : Hp} {a n : Nat} {f : Nat → Int64} (v : Int64) (ha : h[a]? = some (aL n f)) (hn : n < 2 ^ 31) : Mx mJ7_fill_d0a16 d [.ref a, .long v] h none (h.set a (aL n (fillf f n v))) := by
  refine Mx_of [_, _, _, _, _] (by decide +kernel) rfl rfl ?_
  refine Rx_iconst (0) dJ7_fill_d0a16_0 (by decide) ?_
  refine Rx_istore_n [_, _, _, _, _] dJ7_fill_d0a16_1 rfl rfl rfl ?_
  refine Rx_aload_n dJ7_fill_d0a16_2 rfl ?_
  refine Rx_alenL dJ7_fill_d0a16_3 ha ?_
  refine Rx_istore [_, _, _, _, _] dJ7_fill_d0a16_4 rfl rfl rfl ?_
  have := fillL_loop d h v ha hn n 0 (by omega)
  rw [fillf_0, hset_id ha] at this
  exact this
/-! CnfCompiler.State: St h a ca wa cs n as w: its cells at a, its clauses, count, assumed, weights -/
abbrev obS (ca : Nat) (n as : Int32) (wa : Nat) : va_E := .inr (6, [.ref ca, .int n, .int as, .ref wa])
theorem sp_hasCl_t (d : Nat) {h : Hp} {a ca wa : Nat} {n as i : Int32} (ha : h[a]? = some (obS ca n as wa)) (h1 : 0 ≤ i) (h2 : i < n) : Mx mX6_hasClause d [.ref a, .int i] h (some (.int 1)) h := by
  refine Mx_of [_, _] (by decide +kernel) rfl rfl ?_
  refine Rx_iload_n dX6_hasClause_0 rfl ?_
  refine Rx_if_lt_f 16 dX6_hasClause_1 (by decide) (Int32.not_lt.mpr h1) ?_
  refine Rx_iload_n dX6_hasClause_4 rfl ?_
  refine Rx_aload_n dX6_hasClause_5 rfl ?_
  refine Rx_get dX6_hasClause_6 flX6_15 ha rfl ?_
  refine Rx_icmp_ge_f 16 dX6_hasClause_9 (by decide) (Int32.not_le.mpr h2) ?_
  refine Rx_iconst (1) dX6_hasClause_12 (by decide) ?_
  refine Rx_goto 17 dX6_hasClause_13 (by decide) ?_
  exact Rx_zret dX6_hasClause_17 rfl nz_1
theorem sp_hasCl_f (d : Nat) {h : Hp} {a ca wa : Nat} {n as i : Int32} (ha : h[a]? = some (obS ca n as wa)) (h1 : ¬ (0 ≤ i ∧ i < n)) : Mx mX6_hasClause d [.ref a, .int i] h (some (.int 0)) h := by
  refine Mx_of [_, _] (by decide +kernel) rfl rfl ?_
  by_cases c : i < 0
  · refine Rx_iload_n dX6_hasClause_0 rfl ?_
    refine Rx_if_lt_t 16 dX6_hasClause_1 (by decide) c ?_
    refine Rx_iconst (0) dX6_hasClause_16 (by decide) ?_
    exact Rx_zret dX6_hasClause_17 rfl nz_0
  · have c2 : n ≤ i := Int32.not_lt.mp (fun z => h1 ⟨Int32.not_lt.mp c, z⟩)
    refine Rx_iload_n dX6_hasClause_0 rfl ?_
    refine Rx_if_lt_f 16 dX6_hasClause_1 (by decide) c ?_
    refine Rx_iload_n dX6_hasClause_4 rfl ?_
    refine Rx_aload_n dX6_hasClause_5 rfl ?_
    refine Rx_get dX6_hasClause_6 flX6_15 ha rfl ?_
    refine Rx_icmp_ge_t 16 dX6_hasClause_9 (by decide) c2 ?_
    refine Rx_iconst (0) dX6_hasClause_16 (by decide) ?_
    exact Rx_zret dX6_hasClause_17 rfl nz_0
theorem sp_clauseAt (d : Nat) {h : Hp} {a ca wa i n : Nat} {as : Int32} {cs : Nat → Int32} (ha : h[a]? = some (obS ca (nI n) as wa)) (hc : h[ca]? = some (aI 16 cs)) (hi : i < n) (hn : n ≤ 16) : Mx mX6_clauseAt (d + 1) [.ref a, .int (nI i)] h (some (.int (cs i))) h := by
  refine Mx_of [_, _] (by decide +kernel) rfl rfl ?_
  refine Rx_aload_n dX6_clauseAt_0 rfl ?_
  refine Rx_iload_n dX6_clauseAt_1 rfl ?_
  refine Rx_callV [_] dX6_clauseAt_2 clX6_31 rfl ha (sp_hasCl_t d ha (nI_pos' (by omega)) (nI_lt hi (by omega))) rfl rfl rfl ?_
  refine Rx_if_eq_f 17 dX6_clauseAt_5 (by decide) (by decide) ?_
  refine Rx_aload_n dX6_clauseAt_8 rfl ?_
  refine Rx_get dX6_clauseAt_9 flX6_9 ha rfl ?_
  refine Rx_iload_n dX6_clauseAt_12 rfl ?_
  refine Rx_iald i dX6_clauseAt_13 hc (by omega) (by decide) rfl ?_
  refine Rx_goto 18 dX6_clauseAt_14 (by decide) ?_
  exact Rx_iret dX6_clauseAt_18 rfl
theorem sp_appendClause (d : Nat) {h : Hp} {a ca wa n : Nat} {as x : Int32} {cs : Nat → Int32} (ha : h[a]? = some (obS ca (nI n) as wa)) (hc : h[ca]? = some (aI 16 cs)) (hne : ca ≠ a) (hn : n < 16) : Mx mX6_appendClause d [.ref a, .int x] h none ((h.set ca (aI 16 (upd cs n x))).set a (obS ca (nI (n + 1)) as wa)) := by
  refine Mx_of [_, _] (by decide +kernel) rfl rfl ?_
  refine Rx_aload_n dX6_appendClause_0 rfl ?_
  refine Rx_get dX6_appendClause_1 flX6_15 ha rfl ?_
  refine Rx_bipush (16) dX6_appendClause_4 (by decide) ?_
  refine Rx_icmp_ge_f 29 dX6_appendClause_6 (by decide) (nI_ge hn (by decide)) ?_
  refine Rx_aload_n dX6_appendClause_9 rfl ?_
  refine Rx_get dX6_appendClause_10 flX6_9 ha rfl ?_
  refine Rx_aload_n dX6_appendClause_13 rfl ?_
  refine Rx_get dX6_appendClause_14 flX6_15 ha rfl ?_
  refine Rx_iload_n dX6_appendClause_17 rfl ?_
  refine Rx_iast n dX6_appendClause_18 hc hn (by decide) rfl ?_
  refine Rx_aload_n dX6_appendClause_19 rfl ?_
  refine Rx_dup dX6_appendClause_20 rfl ?_
  refine Rx_get dX6_appendClause_21 flX6_15 (hNs hne ha) rfl ?_
  refine Rx_iconst (1) dX6_appendClause_24 (by decide) ?_
  refine Rx_iadd dX6_appendClause_25 ?_
  refine Rx_put [_, _, _, _] dX6_appendClause_26 fpX6_15 (hNs hne ha) rfl (okv_i _) rfl ?_
  rw [nI_1]
  exact Rx_vret dX6_appendClause_29 rfl
theorem sp_weightOf (d : Nat) {h : Hp} {a ca wa i : Nat} {n as : Int32} {w : Nat → Int32} (ha : h[a]? = some (obS ca n as wa)) (hw : h[wa]? = some (aI 22 w)) (hi : i < 22) : Mx mX6_weightOf d [.ref a, .int (nI i)] h (some (.int (w i))) h := by
  refine Mx_of [_, _] (by decide +kernel) rfl rfl ?_
  refine Rx_iload_n dX6_weightOf_0 rfl ?_
  refine Rx_if_lt_f 19 dX6_weightOf_1 (by decide) (nI_pos (by omega)) ?_
  refine Rx_iload_n dX6_weightOf_4 rfl ?_
  refine Rx_bipush (22) dX6_weightOf_5 (by decide) ?_
  refine Rx_icmp_ge_f 19 dX6_weightOf_7 (by decide) (nI_ge hi (by decide)) ?_
  refine Rx_aload_n dX6_weightOf_10 rfl ?_
  refine Rx_get dX6_weightOf_11 flX6_22 ha rfl ?_
  refine Rx_iload_n dX6_weightOf_14 rfl ?_
  refine Rx_iald i dX6_weightOf_15 hw hi (by decide) rfl ?_
  refine Rx_goto 20 dX6_weightOf_16 (by decide) ?_
  exact Rx_iret dX6_weightOf_20 rfl
theorem sp_replaceWeight (d : Nat) {h : Hp} {a ca wa i : Nat} {n as x : Int32} {w : Nat → Int32} (ha : h[a]? = some (obS ca n as wa)) (hw : h[wa]? = some (aI 22 w)) (hi : i < 22) : Mx mX6_replaceWeight (d + 1) [.ref a, .int (nI i), .int x] h (some (.int (w i))) (h.set wa (aI 22 (upd w i x))) := by
  refine Mx_of [_, _, _, _] (by decide +kernel) rfl rfl ?_
  refine Rx_aload_n dX6_replaceWeight_0 rfl ?_
  refine Rx_iload_n dX6_replaceWeight_1 rfl ?_
  refine Rx_callV [_] dX6_replaceWeight_2 clX6_35 rfl ha (sp_weightOf d ha hw hi) rfl rfl rfl ?_
  refine Rx_istore_n [_, _, _, _] dX6_replaceWeight_5 rfl rfl rfl ?_
  refine Rx_iload_n dX6_replaceWeight_6 rfl ?_
  refine Rx_if_lt_f 23 dX6_replaceWeight_7 (by decide) (nI_pos (by omega)) ?_
  refine Rx_iload_n dX6_replaceWeight_10 rfl ?_
  refine Rx_bipush (22) dX6_replaceWeight_11 (by decide) ?_
  refine Rx_icmp_ge_f 23 dX6_replaceWeight_13 (by decide) (nI_ge hi (by decide)) ?_
  refine Rx_aload_n dX6_replaceWeight_16 rfl ?_
  refine Rx_get dX6_replaceWeight_17 flX6_22 ha rfl ?_
  refine Rx_iload_n dX6_replaceWeight_20 rfl ?_
  refine Rx_iload_n dX6_replaceWeight_21 rfl ?_
  refine Rx_iast i dX6_replaceWeight_22 hw hi (by decide) rfl ?_
  refine Rx_iload_n dX6_replaceWeight_23 rfl ?_
  exact Rx_iret dX6_replaceWeight_24 rfl
theorem sp_copyFrom (d : Nat) {h : Hp} {a ca wa b cb wb : Nat} {n as n' as' : Int32} {cs w cs' w' : Nat → Int32} (ha : h[a]? = some (obS ca n as wa)) (hca : h[ca]? = some (aI 16 cs)) (hwa : h[wa]? = some (aI 22 w))
    (hb : h[b]? = some (obS cb n' as' wb)) (hcb : h[cb]? = some (aI 16 cs')) (hwb : h[wb]? = some (aI 22 w')) (e1 : ca ≠ a) (e2 : ca ≠ b) (e3 : a ≠ b) (e4 : ca ≠ wb) (e5 : a ≠ wb) (e6 : ca ≠ wa) (e7 : a ≠ wa) :
    Mq mX6_copyFrom (d + 1) [.ref a, .ref b] h (fun r h' => r = none ∧ Fr [a, ca, wa] h h' ∧ h'[a]? = some (obS ca n' as' wa) ∧ h'[ca]? = some (aI 16 (va_cpy cs' cs 0 0 16)) ∧ h'[wa]? = some (aI 22 (va_cpy w' w 0 0 22))) := by
  refine Mq_of [_, _] (by decide +kernel) rfl rfl ?_
  refine Rq_aload_n dX6_copyFrom_0 rfl ?_
  refine Rq_get dX6_copyFrom_1 flX6_9 hb rfl ?_
  refine Rq_iconst (0) dX6_copyFrom_4 (by decide) ?_
  refine Rq_aload_n dX6_copyFrom_5 rfl ?_
  refine Rq_get dX6_copyFrom_6 flX6_9 ha rfl ?_
  refine Rq_iconst (0) dX6_copyFrom_9 (by decide) ?_
  refine Rq_bipush (16) dX6_copyFrom_10 (by decide) ?_
  refine Rq_acopy 0 0 16 dX6_copyFrom_12 clX6_39 ac_1 ac_2 ac_3 hcb hca (by decide) (by decide) rfl rfl rfl (by decide) (by decide) rfl ?_
  have hb1 := hNs (e' := aI 16 (va_cpy cs' cs 0 0 16)) e2 hb
  have ha1 := hNs (e' := aI 16 (va_cpy cs' cs 0 0 16)) e1 ha
  refine Rq_aload_n dX6_copyFrom_15 rfl ?_
  refine Rq_aload_n dX6_copyFrom_16 rfl ?_
  refine Rq_get dX6_copyFrom_17 flX6_15 hb1 rfl ?_
  refine Rq_put [_, _, _, _] dX6_copyFrom_20 fpX6_15 ha1 rfl (okv_i _) rfl ?_
  have hb2 := hNs (e' := obS ca n' as wa) e3 hb1
  have ha2 := hS (obS ca n' as wa) ha1
  refine Rq_aload_n dX6_copyFrom_23 rfl ?_
  refine Rq_aload_n dX6_copyFrom_24 rfl ?_
  refine Rq_get dX6_copyFrom_25 flX6_19 hb2 rfl ?_
  refine Rq_put [_, _, _, _] dX6_copyFrom_28 fpX6_19 ha2 rfl (okv_i _) rfl ?_
  have hb3 := hNs (e' := obS ca n' as' wa) e3 hb2
  have ha3 := hS (obS ca n' as' wa) ha2
  have hwb3 := hNs (e' := obS ca n' as' wa) e5 (hNs (e' := obS ca n' as wa) e5 (hNs (e' := aI 16 (va_cpy cs' cs 0 0 16)) e4 hwb))
  have hwa3 := hNs (e' := obS ca n' as' wa) e7 (hNs (e' := obS ca n' as wa) e7 (hNs (e' := aI 16 (va_cpy cs' cs 0 0 16)) e6 hwa))
  refine Rq_aload_n dX6_copyFrom_31 rfl ?_
  refine Rq_get dX6_copyFrom_32 flX6_22 hb3 rfl ?_
  refine Rq_iconst (0) dX6_copyFrom_35 (by decide) ?_
  refine Rq_aload_n dX6_copyFrom_36 rfl ?_
  refine Rq_get dX6_copyFrom_37 flX6_22 ha3 rfl ?_
  refine Rq_iconst (0) dX6_copyFrom_40 (by decide) ?_
  refine Rq_bipush (22) dX6_copyFrom_41 (by decide) ?_
  refine Rq_acopy 0 0 22 dX6_copyFrom_43 clX6_39 ac_1 ac_2 ac_3 hwb3 hwa3 (by decide) (by decide) rfl rfl rfl (by decide) (by decide) rfl ?_
  refine Rq_vret dX6_copyFrom_46 rfl ?_
  refine ⟨rfl, ?_, hNs (Ne.symm e7) ha3, hNs (Ne.symm e6) (hNs (Ne.symm e1) (hNs (Ne.symm e1) (hS _ hca))), hS _ hwa3⟩
  exact Fr.trans (Fr.set (by simp)) (Fr.trans (Fr.set (by simp)) (Fr.trans (Fr.set (by simp)) (Fr.set (by simp))))
def delf (f : Nat → Int32) (c i : Nat) : Nat → Int32 := fun j => if c ≤ j ∧ j < i then f (j + 1) else f j
theorem delf_s (f : Nat → Int32) (c i : Nat) (hc : c ≤ i) : upd (delf f c i) i (delf f c i (i + 1)) = delf f c (i + 1) := by
  funext j
  simp only [upd, delf]
  by_cases h1 : j = i
  · subst h1
    rw [if_pos rfl, if_neg (by omega), if_pos (by omega)]
  · rw [if_neg h1]
    by_cases h2 : c ≤ j ∧ j < i
    · rw [if_pos h2, if_pos (by omega)]
    · rw [if_neg h2, if_neg (by omega)]
theorem delete_loop (d : Nat) (h : Hp) {a ca wa n c : Nat} {as : Int32} {cs : Nat → Int32} (ha : h[a]? = some (obS ca (nI n) as wa)) (hca : h[ca]? = some (aI 16 cs)) (hne : ca ≠ a) (hn : n ≤ 16) : ∀ (k i : Nat), c ≤ i → i + 1 + k = n → Rx mX6_deleteClause d 11 [.ref a, .int (nI c), .int (nI i)] [] (h.set ca (aI 16 (delf cs c i))) none ((h.set ca (aI 16 (delf cs c (n - 1)))).set a (obS ca (nI (n - 1)) as wa)) := by
  intro k
  induction k with
  | zero =>
    intro i hc hi
    have e : n - 1 = i := by omega
    rw [e]
    have ha1 := hNs (e' := aI 16 (delf cs c i)) hne ha
    refine Rx_iload_n dX6_deleteClause_11 rfl ?_
    refine Rx_iconst (1) dX6_deleteClause_12 (by decide) ?_
    refine Rx_iadd dX6_deleteClause_13 ?_
    refine Rx_aload_n dX6_deleteClause_14 rfl ?_
    refine Rx_get dX6_deleteClause_15 flX6_15 ha1 rfl ?_
    refine Rx_icmp_ge_t 41 dX6_deleteClause_18 (by decide) (by rw [nI_1]; exact nI_le (by omega) (by omega)) ?_
    refine Rx_aload_n dX6_deleteClause_41 rfl ?_
    refine Rx_dup dX6_deleteClause_42 rfl ?_
    refine Rx_get dX6_deleteClause_43 flX6_15 ha1 rfl ?_
    refine Rx_iconst (1) dX6_deleteClause_46 (by decide) ?_
    refine Rx_isub dX6_deleteClause_47 ?_
    refine Rx_put [_, _, _, _] dX6_deleteClause_48 fpX6_15 ha1 rfl (okv_i _) rfl ?_
    rw [show nI n - 1 = nI i from by rw [← hi]; exact nI_pred i]
    exact Rx_vret dX6_deleteClause_51 rfl
  | succ k ih =>
    intro i hc hi
    have ha1 := hNs (e' := aI 16 (delf cs c i)) hne ha
    have hc1 := hS (aI 16 (delf cs c i)) hca
    refine Rx_iload_n dX6_deleteClause_11 rfl ?_
    refine Rx_iconst (1) dX6_deleteClause_12 (by decide) ?_
    refine Rx_iadd dX6_deleteClause_13 ?_
    refine Rx_aload_n dX6_deleteClause_14 rfl ?_
    refine Rx_get dX6_deleteClause_15 flX6_15 ha1 rfl ?_
    refine Rx_icmp_ge_f 41 dX6_deleteClause_18 (by decide) (by rw [nI_1]; exact nI_ge (by omega) (by omega)) ?_
    refine Rx_aload_n dX6_deleteClause_21 rfl ?_
    refine Rx_get dX6_deleteClause_22 flX6_9 ha1 rfl ?_
    refine Rx_iload_n dX6_deleteClause_25 rfl ?_
    refine Rx_aload_n dX6_deleteClause_26 rfl ?_
    refine Rx_get dX6_deleteClause_27 flX6_9 ha1 rfl ?_
    refine Rx_iload_n dX6_deleteClause_30 rfl ?_
    refine Rx_iconst (1) dX6_deleteClause_31 (by decide) ?_
    refine Rx_iadd dX6_deleteClause_32 ?_
    refine Rx_iald (i + 1) dX6_deleteClause_33 hc1 (by omega) (by decide) (nI_1 i) ?_
    refine Rx_iast i dX6_deleteClause_34 hc1 (by omega) (by decide) rfl ?_
    rw [List.set_set, delf_s cs c i hc]
    refine Rx_iinc [_, _, _] (1) dX6_deleteClause_35 rfl (by decide) rfl rfl rfl ?_
    refine Rx_goto 11 dX6_deleteClause_38 (by decide) ?_
    rw [nI_1]
    exact ih (i + 1) (by omega) (by omega)
theorem sp_deleteClause (d : Nat) {h : Hp} {a ca wa n c : Nat} {as : Int32} {cs : Nat → Int32} (ha : h[a]? = some (obS ca (nI n) as wa)) (hca : h[ca]? = some (aI 16 cs)) (hne : ca ≠ a) (hn : n ≤ 16) (hc : c < n) : Mx mX6_deleteClause (d + 1) [.ref a, .int (nI c)] h none ((h.set ca (aI 16 (delf cs c (n - 1)))).set a (obS ca (nI (n - 1)) as wa)) := by
  refine Mx_of [_, _, _] (by decide +kernel) rfl rfl ?_
  refine Rx_aload_n dX6_deleteClause_0 rfl ?_
  refine Rx_iload_n dX6_deleteClause_1 rfl ?_
  refine Rx_callV [_] dX6_deleteClause_2 clX6_31 rfl ha (sp_hasCl_t d ha (nI_pos' (by omega)) (nI_lt hc (by omega))) rfl rfl rfl ?_
  refine Rx_if_ne_t 9 dX6_deleteClause_5 (by decide) (by decide) ?_
  refine Rx_iload_n dX6_deleteClause_9 rfl ?_
  refine Rx_istore_n [_, _, _] dX6_deleteClause_10 rfl rfl rfl ?_
  have := delete_loop (d + 1) h (c := c) ha hca hne hn (n - 1 - c) c (Nat.le_refl _) (by omega)
  rw [show delf cs c c = cs from by funext j; simp only [delf]; rw [if_neg (by omega)], hset_id hca] at this
  exact this
