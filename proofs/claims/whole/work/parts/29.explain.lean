/-! CnfCompiler.Explainer: cells 38, 39 (supporting), 40 (opposing), 41 (chosen codes) -/
abbrev obE (us g fs : Int32) : va_E := .inr (1, [.ref 39, .ref 40, .ref 41, .int us, .int g, .int fs])
/-- the assignments of word i in which all literals of some codes are true -/
def chl (l : List Nat) (i : Nat) : Int64 := l.foldl (fun a c => a &&& lwv c i) (-1)
def exR (sup opp ch : Nat → Int64) : Nat → Nat → Bool → Bool
  | 0, _, b => b
  | k + 1, i, b => if opp i &&& ch i = 0 then exR sup opp ch k (i + 1) (b || !(decide (sup i &&& ch i = 0))) else false
def exB (sup opp : Nat → Int64) (l : List Nat) : Bool := exR sup opp (chl l) 16 0 false
theorem chl_snoc (l : List Nat) (c i : Nat) : chl (l ++ [c]) i = chl l i &&& lwv c i := by simp [chl, List.foldl_append]
def b2i (b : Bool) : Int32 := if b then 1 else 0
theorem expl_in (d : Nat) {h : Hp} {us g fs b : Int32} {ch : Nat → Int32} {l : List Nat} {i : Nat} {Q : Option Value → Hp → Prop} (h1 : h[38]? = some (obE us g fs)) (h4 : h[41]? = some (aI 3 ch)) (hl : l.length ≤ 3) (hc : ∀ j, j < l.length → ch j = nI (l.getD j 0) ∧ 2 ≤ l.getD j 0 ∧ l.getD j 0 ≤ 21) (hi : i < 16)
    (K : Rq mX1_explains (d + 1) 52 [.ref 38, .int (nI l.length), .int b, .int (nI i), .long (chl l i), .retAddr 0, .retAddr 0] [] h Q) : ∀ (k j : Nat), j + k = l.length → Rq mX1_explains (d + 1) 18 [.ref 38, .int (nI l.length), .int b, .int (nI i), .long (chl (l.take j) i), .retAddr 0, .int (nI j)] [] h Q := by
  intro k
  induction k with
  | zero =>
    intro j hj
    have e : j = l.length := by omega
    subst e
    rw [List.take_length]
    refine Rq_iload dX1_explains_18 rfl ?_
    refine Rq_iload_n dX1_explains_20 rfl ?_
    refine Rq_icmp_ge_t 52 dX1_explains_21 (by decide) (nI_le (Nat.le_refl _) (by omega)) ?_
    refine Rq_dead [_, _, _, _, _, .retAddr 0, .retAddr 0] ⟨Or.inr rfl, Or.inr rfl, Or.inr rfl, Or.inr rfl, Or.inr rfl, Or.inl rfl, Or.inl rfl, trivial⟩ ?_
    exact K
  | succ k ih =>
    intro j hj
    obtain ⟨c1, c2, c3⟩ := hc j (by omega)
    refine Rq_iload dX1_explains_18 rfl ?_
    refine Rq_iload_n dX1_explains_20 rfl ?_
    refine Rq_icmp_ge_f 52 dX1_explains_21 (by decide) (nI_ge (by omega) (by omega)) ?_
    refine Rq_iload dX1_explains_24 rfl ?_
    refine Rq_iconst (3) dX1_explains_26 (by decide) ?_
    refine Rq_icmp_ge_f 52 dX1_explains_27 (by decide) (nI_ge (b := 3) (by omega) (by decide)) ?_
    refine Rq_lload dX1_explains_30 rfl ?_
    refine Rq_aload_n dX1_explains_32 rfl ?_
    refine Rq_get dX1_explains_33 flX1_18 h1 rfl ?_
    refine Rq_iload dX1_explains_36 rfl ?_
    refine Rq_iald j dX1_explains_38 h4 (by omega) (by decide) rfl ?_
    rw [c1]
    refine Rq_iload_n dX1_explains_39 rfl ?_
    refine Rq_callS [_, _] dX1_explains_40 clX1_32 (sp_lw d h c2 c3 hi) rfl rfl rfl ?_
    refine Rq_land dX1_explains_43 ?_
    refine Rq_lstore [_, _, _, _, _, _, _] dX1_explains_44 rfl rfl rfl ?_
    refine Rq_iinc [_, _, _, _, _, _, _] (1) dX1_explains_46 rfl (by decide) rfl rfl rfl ?_
    refine Rq_goto 18 dX1_explains_49 (by decide) ?_
    rw [nI_1]
    have e : l.take (j + 1) = l.take j ++ [l.getD j 0] := by
      rw [List.take_add_one]
      congr 1
      rw [List.getD_eq_getElem?_getD, List.getElem?_eq_getElem (by omega)]
      rfl
    have := ih (j + 1) (by omega)
    rw [e, chl_snoc] at this
    refine Rq_dead [_, _, _, _, _, .retAddr 0, _] ⟨Or.inr rfl, Or.inr rfl, Or.inr rfl, Or.inr rfl, Or.inr rfl, Or.inl rfl, Or.inr rfl, trivial⟩ ?_
    exact this
theorem expl_out (d : Nat) {h : Hp} {us g fs : Int32} {ch : Nat → Int32} {sup opp : Nat → Int64} {l : List Nat} (h1 : h[38]? = some (obE us g fs)) (h2 : h[39]? = some (aL 16 sup)) (h3 : h[40]? = some (aL 16 opp)) (h4 : h[41]? = some (aI 3 ch)) (hl : l.length ≤ 3) (hc : ∀ j, j < l.length → ch j = nI (l.getD j 0) ∧ 2 ≤ l.getD j 0 ∧ l.getD j 0 ≤ 21) : ∀ (k i : Nat) (b : Bool), i + k = 16 →
    Rq mX1_explains (d + 1) 4 [.ref 38, .int (nI l.length), .int (b2i b), .int (nI i), .retAddr 0, .retAddr 0, .retAddr 0] [] h (fun r h' => r = some (.int (b2i (exR sup opp (chl l) k i b))) ∧ h' = h) := by
  intro k
  induction k with
  | zero =>
    intro i b hi
    have e : i = 16 := by omega
    subst e
    cases b with
    | true =>
      refine Rq_iload_n dX1_explains_4 rfl ?_
      refine Rq_bipush (16) dX1_explains_5 (by decide) ?_
      refine Rq_icmp_ge_t 98 dX1_explains_7 (by decide) (nI_le (Nat.le_refl _) (by decide)) ?_
      refine Rq_iload_n dX1_explains_98 rfl ?_
      refine Rq_zret dX1_explains_99 rfl nz_1 ?_
      exact ⟨rfl, rfl⟩
    | false =>
      refine Rq_iload_n dX1_explains_4 rfl ?_
      refine Rq_bipush (16) dX1_explains_5 (by decide) ?_
      refine Rq_icmp_ge_t 98 dX1_explains_7 (by decide) (nI_le (Nat.le_refl _) (by decide)) ?_
      refine Rq_iload_n dX1_explains_98 rfl ?_
      refine Rq_zret dX1_explains_99 rfl nz_0 ?_
      exact ⟨rfl, rfl⟩
  | succ k ih =>
    intro i b hi
    have hi16 : i < 16 := by omega
    unfold exR
    refine Rq_iload_n dX1_explains_4 rfl ?_
    refine Rq_bipush (16) dX1_explains_5 (by decide) ?_
    refine Rq_icmp_ge_f 98 dX1_explains_7 (by decide) (nI_ge (b := 16) hi16 (by decide)) ?_
    refine Rq_ldc2 dX1_explains_10 kcX1_42 ?_
    refine Rq_lstore [_, _, _, _, _, _, _] dX1_explains_13 rfl rfl rfl ?_
    refine Rq_iconst (0) dX1_explains_15 (by decide) ?_
    refine Rq_istore [_, _, _, _, _, _, _] dX1_explains_16 rfl rfl rfl ?_
    refine expl_in d (l := l) h1 h4 hl hc hi16 ?_ l.length 0 (by omega)
    by_cases c : opp i &&& chl l i = 0
    · rw [if_pos c]
      cases b with
      | true =>
        refine Rq_aload_n dX1_explains_52 rfl ?_
        refine Rq_get dX1_explains_53 flX1_15 h1 rfl ?_
        refine Rq_iload_n dX1_explains_56 rfl ?_
        refine Rq_lald i dX1_explains_57 h3 hi16 (by decide) rfl ?_
        refine Rq_lload dX1_explains_58 rfl ?_
        refine Rq_land dX1_explains_60 ?_
        refine Rq_lconst (0) dX1_explains_61 (by decide) ?_
        refine Rq_lcmp dX1_explains_62 ?_
        refine Rq_if_eq_t 68 dX1_explains_63 (by decide) (by rw [lg_cmp_eq]; exact c) ?_
        refine Rq_iload_n dX1_explains_68 rfl ?_
        refine Rq_if_ne_t 86 dX1_explains_69 (by decide) (by decide) ?_
        refine Rq_iconst (1) dX1_explains_86 (by decide) ?_
        refine Rq_goto 91 dX1_explains_87 (by decide) ?_
        refine Rq_istore_n [_, _, _, _, _, _, _] dX1_explains_91 rfl rfl rfl ?_
        refine Rq_iinc [_, _, _, _, _, _, _] (1) dX1_explains_92 rfl (by decide) rfl rfl rfl ?_
        refine Rq_goto 4 dX1_explains_95 (by decide) ?_
        rw [nI_1]
        refine Rq_dead [_, _, _, _, .retAddr 0, .retAddr 0, .retAddr 0] ⟨Or.inr rfl, Or.inr rfl, Or.inr rfl, Or.inr rfl, Or.inl rfl, Or.inl rfl, Or.inl rfl, trivial⟩ ?_
        exact ih (i + 1) true (by omega)
      | false =>
        by_cases c2 : sup i &&& chl l i = 0
        · rw [c2]
          refine Rq_aload_n dX1_explains_52 rfl ?_
          refine Rq_get dX1_explains_53 flX1_15 h1 rfl ?_
          refine Rq_iload_n dX1_explains_56 rfl ?_
          refine Rq_lald i dX1_explains_57 h3 hi16 (by decide) rfl ?_
          refine Rq_lload dX1_explains_58 rfl ?_
          refine Rq_land dX1_explains_60 ?_
          refine Rq_lconst (0) dX1_explains_61 (by decide) ?_
          refine Rq_lcmp dX1_explains_62 ?_
          refine Rq_if_eq_t 68 dX1_explains_63 (by decide) (by rw [lg_cmp_eq]; exact c) ?_
          refine Rq_iload_n dX1_explains_68 rfl ?_
          refine Rq_if_ne_f 86 dX1_explains_69 (by decide) rfl ?_
          refine Rq_aload_n dX1_explains_72 rfl ?_
          refine Rq_get dX1_explains_73 flX1_9 h1 rfl ?_
          refine Rq_iload_n dX1_explains_76 rfl ?_
          refine Rq_lald i dX1_explains_77 h2 hi16 (by decide) rfl ?_
          refine Rq_lload dX1_explains_78 rfl ?_
          refine Rq_land dX1_explains_80 ?_
          refine Rq_lconst (0) dX1_explains_81 (by decide) ?_
          refine Rq_lcmp dX1_explains_82 ?_
          refine Rq_if_eq_t 90 dX1_explains_83 (by decide) (by rw [lg_cmp_eq]; exact c2) ?_
          refine Rq_iconst (0) dX1_explains_90 (by decide) ?_
          refine Rq_istore_n [_, _, _, _, _, _, _] dX1_explains_91 rfl rfl rfl ?_
          refine Rq_iinc [_, _, _, _, _, _, _] (1) dX1_explains_92 rfl (by decide) rfl rfl rfl ?_
          refine Rq_goto 4 dX1_explains_95 (by decide) ?_
          rw [nI_1]
          refine Rq_dead [_, _, _, _, .retAddr 0, .retAddr 0, .retAddr 0] ⟨Or.inr rfl, Or.inr rfl, Or.inr rfl, Or.inr rfl, Or.inl rfl, Or.inl rfl, Or.inl rfl, trivial⟩ ?_
          exact ih (i + 1) false (by omega)
        · rw [show (false || !(decide (sup i &&& chl l i = 0))) = true from by simp [c2]]
          refine Rq_aload_n dX1_explains_52 rfl ?_
          refine Rq_get dX1_explains_53 flX1_15 h1 rfl ?_
          refine Rq_iload_n dX1_explains_56 rfl ?_
          refine Rq_lald i dX1_explains_57 h3 hi16 (by decide) rfl ?_
          refine Rq_lload dX1_explains_58 rfl ?_
          refine Rq_land dX1_explains_60 ?_
          refine Rq_lconst (0) dX1_explains_61 (by decide) ?_
          refine Rq_lcmp dX1_explains_62 ?_
          refine Rq_if_eq_t 68 dX1_explains_63 (by decide) (by rw [lg_cmp_eq]; exact c) ?_
          refine Rq_iload_n dX1_explains_68 rfl ?_
          refine Rq_if_ne_f 86 dX1_explains_69 (by decide) rfl ?_
          refine Rq_aload_n dX1_explains_72 rfl ?_
          refine Rq_get dX1_explains_73 flX1_9 h1 rfl ?_
          refine Rq_iload_n dX1_explains_76 rfl ?_
          refine Rq_lald i dX1_explains_77 h2 hi16 (by decide) rfl ?_
          refine Rq_lload dX1_explains_78 rfl ?_
          refine Rq_land dX1_explains_80 ?_
          refine Rq_lconst (0) dX1_explains_81 (by decide) ?_
          refine Rq_lcmp dX1_explains_82 ?_
          refine Rq_if_eq_f 90 dX1_explains_83 (by decide) (fun z => c2 ((lg_cmp_eq _ _).mp z)) ?_
          refine Rq_iconst (1) dX1_explains_86 (by decide) ?_
          refine Rq_goto 91 dX1_explains_87 (by decide) ?_
          refine Rq_istore_n [_, _, _, _, _, _, _] dX1_explains_91 rfl rfl rfl ?_
          refine Rq_iinc [_, _, _, _, _, _, _] (1) dX1_explains_92 rfl (by decide) rfl rfl rfl ?_
          refine Rq_goto 4 dX1_explains_95 (by decide) ?_
          rw [nI_1]
          refine Rq_dead [_, _, _, _, .retAddr 0, .retAddr 0, .retAddr 0] ⟨Or.inr rfl, Or.inr rfl, Or.inr rfl, Or.inr rfl, Or.inl rfl, Or.inl rfl, Or.inl rfl, trivial⟩ ?_
          exact ih (i + 1) true (by omega)
    · rw [if_neg c]
      refine Rq_aload_n dX1_explains_52 rfl ?_
      refine Rq_get dX1_explains_53 flX1_15 h1 rfl ?_
      refine Rq_iload_n dX1_explains_56 rfl ?_
      refine Rq_lald i dX1_explains_57 h3 hi16 (by decide) rfl ?_
      refine Rq_lload dX1_explains_58 rfl ?_
      refine Rq_land dX1_explains_60 ?_
      refine Rq_lconst (0) dX1_explains_61 (by decide) ?_
      refine Rq_lcmp dX1_explains_62 ?_
      refine Rq_if_eq_f 68 dX1_explains_63 (by decide) (fun z => c ((lg_cmp_eq _ _).mp z)) ?_
      refine Rq_iconst (0) dX1_explains_66 (by decide) ?_
      refine Rq_zret dX1_explains_67 rfl nz_0 ?_
      exact ⟨rfl, rfl⟩
theorem sp_explains (d : Nat) {h : Hp} {us g fs : Int32} {ch : Nat → Int32} {sup opp : Nat → Int64} (l : List Nat) (h1 : h[38]? = some (obE us g fs)) (h2 : h[39]? = some (aL 16 sup)) (h3 : h[40]? = some (aL 16 opp)) (h4 : h[41]? = some (aI 3 ch)) (hl : l.length ≤ 3) (hc : ∀ j, j < l.length → ch j = nI (l.getD j 0) ∧ 2 ≤ l.getD j 0 ∧ l.getD j 0 ≤ 21) :
    Mx mX1_explains (d + 1) [.ref 38, .int (nI l.length)] h (some (.int (b2i (exB sup opp l)))) h := by
  have : Mq mX1_explains (d + 1) [.ref 38, .int (nI l.length)] h (fun r h' => r = some (.int (b2i (exB sup opp l))) ∧ h' = h) := by
    refine Mq_of [_, _, _, _, _, _, _] (by decide +kernel) rfl rfl ?_
    refine Rq_iconst (0) dX1_explains_0 (by decide) ?_
    refine Rq_istore_n [_, _, _, _, _, _, _] dX1_explains_1 rfl rfl rfl ?_
    refine Rq_iconst (0) dX1_explains_2 (by decide) ?_
    refine Rq_istore_n [_, _, _, _, _, _, _] dX1_explains_3 rfl rfl rfl ?_
    exact expl_out d h1 h2 h3 h4 hl hc 16 0 false rfl
  obtain ⟨r, h', ⟨rfl, rfl⟩, K⟩ := this
  exact K
/-- the first choice of n more codes, from a first one on, that explains -/
def srch (us : Nat → Bool) (ex : List Nat → Bool) : Nat → Nat → List Nat → Option (List Nat)
  | 0, _, pre => if ex pre then some pre else none
  | n + 1, first, pre => (List.range' first (22 - first)).findSome? (fun c => if us c then srch us ex n (2 * (c / 2) + 2) (pre ++ [c]) else none)
def cplPost (h : Hp) (slot size : Nat) (pre : List Nat) (o : Option (List Nat)) (r : Option Value) (h' : Hp) : Prop := Fr [41] h h' ∧ match o with
  | some l => r = some (.int 1) ∧ ∃ ch, h'[41]? = some (aI 3 ch) ∧ ∀ j, j < size → ch j = nI (l.getD j 0)
  | none => r = some (.int 0) ∧ ∃ ch, h'[41]? = some (aI 3 ch) ∧ ∀ j, j < slot → ch j = nI (pre.getD j 0)
theorem or1 : ∀ c, c < 22 → nI c ||| 1 = nI (2 * (c / 2) + 1) := by decide
theorem getD_snoc_lt {l : List Nat} {c j : Nat} (h : j < l.length) : (l ++ [c]).getD j 0 = l.getD j 0 := by
  rw [List.getD_eq_getElem?_getD, List.getD_eq_getElem?_getD, List.getElem?_append_left h]
theorem getD_snoc_eq {l : List Nat} {c : Nat} : (l ++ [c]).getD l.length 0 = c := by
  rw [List.getD_eq_getElem?_getD, List.getElem?_append_right (Nat.le_refl _), Nat.sub_self]; rfl
theorem range'_cons {a : Nat} (h : a ≤ 21) : List.range' a (22 - a) = a :: List.range' (a + 1) (22 - (a + 1)) := by
  rw [show 22 - a = (22 - (a + 1)) + 1 by omega, List.range'_succ]
theorem sp_complete {us g fs : Int32} {sup opp : Nat → Int64} (d : Nat) : ∀ (n : Nat) (pre : List Nat) (first size : Nat) (h : Hp) (ch : Nat → Int32), pre.length + n = size → size ≤ 3 → 2 ≤ first → first ≤ 22 → h[38]? = some (obE us g fs) → h[39]? = some (aL 16 sup) → h[40]? = some (aL 16 opp) → h[41]? = some (aI 3 ch) → (∀ j, j < pre.length → ch j = nI (pre.getD j 0) ∧ 2 ≤ pre.getD j 0 ∧ pre.getD j 0 ≤ 21) →
    Mq mX1_complete (d + n + 2) [.ref 38, .int (nI pre.length), .int (nI first), .int (nI size)] h (cplPost h pre.length size pre (srch (conb us) (exB sup opp) n first pre)) := by
  intro n
  induction n with
  | zero =>
    intro pre first size h ch hn hsz hf1 hf h1 h2 h3 h4 hc
    have e : size = pre.length := by omega
    subst e
    have sx := sp_explains d pre h1 h2 h3 h4 hsz hc
    refine Mq_of [_, _, _, _, _, _] (by decide +kernel) rfl rfl ?_
    simp only [srch]
    cases he : exB sup opp pre with
    | true =>
      rw [he] at sx
      refine Rq_iload_n dX1_complete_0 rfl ?_
      refine Rq_iload_n dX1_complete_1 rfl ?_
      refine Rq_icmp_ge_t 14 dX1_complete_2 (by decide) (nI_le (Nat.le_refl _) (by omega)) ?_
      refine Rq_aload_n dX1_complete_14 rfl ?_
      refine Rq_iload_n dX1_complete_15 rfl ?_
      refine Rq_callV [_] dX1_complete_16 clX1_52 rfl h1 sx rfl rfl rfl ?_
      refine Rq_zret dX1_complete_19 rfl nz_1 ?_
      exact ⟨Fr.rfl', rfl, ch, h4, fun j hj => (hc j hj).1⟩
    | false =>
      rw [he] at sx
      refine Rq_iload_n dX1_complete_0 rfl ?_
      refine Rq_iload_n dX1_complete_1 rfl ?_
      refine Rq_icmp_ge_t 14 dX1_complete_2 (by decide) (nI_le (Nat.le_refl _) (by omega)) ?_
      refine Rq_aload_n dX1_complete_14 rfl ?_
      refine Rq_iload_n dX1_complete_15 rfl ?_
      refine Rq_callV [_] dX1_complete_16 clX1_52 rfl h1 sx rfl rfl rfl ?_
      refine Rq_zret dX1_complete_19 rfl nz_0 ?_
      exact ⟨Fr.rfl', rfl, ch, h4, fun j hj => (hc j hj).1⟩
  | succ n ih =>
    intro pre first size h ch hn hsz hf1 hf h1 h2 h3 h4 hc
    have loop : ∀ (k c : Nat) (h : Hp) (ch : Nat → Int32), c + k = 22 → 2 ≤ c → h[38]? = some (obE us g fs) → h[39]? = some (aL 16 sup) → h[40]? = some (aL 16 opp) → h[41]? = some (aI 3 ch) → (∀ j, j < pre.length → ch j = nI (pre.getD j 0) ∧ 2 ≤ pre.getD j 0 ∧ pre.getD j 0 ≤ 21) →
        Rq mX1_complete (d + (n + 1) + 2) 23 [.ref 38, .int (nI pre.length), .int (nI first), .int (nI size), .int (nI c), .retAddr 0] [] h (cplPost h pre.length size pre ((List.range' c (22 - c)).findSome? (fun c => if conb us c then srch (conb us) (exB sup opp) n (2 * (c / 2) + 2) (pre ++ [c]) else none))) := by
      intro k
      induction k with
      | zero =>
        intro c h ch hk hc2 h1 h2 h3 h4 hc
        have e : c = 22 := by omega
        subst e
        refine Rq_iload dX1_complete_23 rfl ?_
        refine Rq_bipush (21) dX1_complete_25 (by decide) ?_
        refine Rq_icmp_gt_t 79 dX1_complete_27 (by decide) (nI_lt (a := 21) (by decide) (by decide)) ?_
        refine Rq_iconst (0) dX1_complete_79 (by decide) ?_
        refine Rq_zret dX1_complete_80 rfl nz_0 ?_
        exact ⟨Fr.rfl', rfl, ch, h4, fun j hj => (hc j hj).1⟩
      | succ k ik =>
        intro c h ch hk hc2 h1 h2 h3 h4 hc
        rw [range'_cons (by omega), List.findSome?_cons]
        cases hb : conb us c with
        | false =>
          simp only [Bool.false_eq_true, if_false]
          refine Rq_iload dX1_complete_23 rfl ?_
          refine Rq_bipush (21) dX1_complete_25 (by decide) ?_
          refine Rq_icmp_gt_f 79 dX1_complete_27 (by decide) (nI_nlt (b := c) (a := 21) (by omega) (by decide)) ?_
          refine Rq_aload_n dX1_complete_30 rfl ?_
          refine Rq_get dX1_complete_31 flX1_22 h1 rfl ?_
          refine Rq_iload dX1_complete_34 rfl ?_
          refine Rq_callS [_, _] dX1_complete_36 clX1_56 (sp_contains_f _ h (conb_f hb)) rfl rfl rfl ?_
          refine Rq_if_eq_t 73 dX1_complete_39 (by decide) rfl ?_
          refine Rq_iinc [_, _, _, _, _, _] (1) dX1_complete_73 rfl (by decide) rfl rfl rfl ?_
          refine Rq_goto 23 dX1_complete_76 (by decide) ?_
          rw [nI_1]
          exact ik (c + 1) h ch (by omega) (by omega) h1 h2 h3 h4 hc
        | true =>
          simp only [if_true]
          have cc : ∀ j, j < (pre ++ [c]).length → upd ch pre.length (nI c) j = nI ((pre ++ [c]).getD j 0) ∧ 2 ≤ (pre ++ [c]).getD j 0 ∧ (pre ++ [c]).getD j 0 ≤ 21 := by
            intro j hj
            rw [List.length_append, List.length_singleton] at hj
            by_cases e : j = pre.length
            · subst e
              rw [getD_snoc_eq, pk_us]
              exact ⟨rfl, by omega, by omega⟩
            · rw [getD_snoc_lt (by omega), pk_un e]
              exact hc j (by omega)
          have g4 := hS (aI 3 (upd ch pre.length (nI c))) h4
          have recc := ih (pre ++ [c]) (2 * (c / 2) + 2) size (h.set 41 (aI 3 (upd ch pre.length (nI c)))) (upd ch pre.length (nI c)) (by rw [List.length_append, List.length_singleton]; omega) hsz (by omega) (by omega) (hNs (by decide) h1) (hNs (by decide) h2) (hNs (by decide) h3) g4 cc
          rw [List.length_append, List.length_singleton] at recc
          refine Rq_iload dX1_complete_23 rfl ?_
          refine Rq_bipush (21) dX1_complete_25 (by decide) ?_
          refine Rq_icmp_gt_f 79 dX1_complete_27 (by decide) (nI_nlt (b := c) (a := 21) (by omega) (by decide)) ?_
          refine Rq_aload_n dX1_complete_30 rfl ?_
          refine Rq_get dX1_complete_31 flX1_22 h1 rfl ?_
          refine Rq_iload dX1_complete_34 rfl ?_
          refine Rq_callS [_, _] dX1_complete_36 clX1_56 (sp_contains_t _ h (conb_t hb)) rfl rfl rfl ?_
          refine Rq_if_eq_f 73 dX1_complete_39 (by decide) (by decide) ?_
          refine Rq_aload_n dX1_complete_42 rfl ?_
          refine Rq_get dX1_complete_43 flX1_18 h1 rfl ?_
          refine Rq_iload_n dX1_complete_46 rfl ?_
          refine Rq_iload dX1_complete_47 rfl ?_
          refine Rq_iast pre.length dX1_complete_49 h4 (by omega) (by decide) rfl ?_
          refine Rq_iload dX1_complete_50 rfl ?_
          refine Rq_iconst (1) dX1_complete_52 (by decide) ?_
          refine Rq_ior dX1_complete_53 ?_
          rw [or1 c (by omega)]
          refine Rq_iconst (1) dX1_complete_54 (by decide) ?_
          refine Rq_iadd dX1_complete_55 ?_
          refine Rq_istore [_, _, _, _, _, _] dX1_complete_56 rfl rfl rfl ?_
          refine Rq_aload_n dX1_complete_58 rfl ?_
          refine Rq_iload_n dX1_complete_59 rfl ?_
          refine Rq_iconst (1) dX1_complete_60 (by decide) ?_
          refine Rq_iadd dX1_complete_61 ?_
          refine Rq_iload dX1_complete_62 rfl ?_
          refine Rq_iload_n dX1_complete_64 rfl ?_
          rw [nI_1, nI_1]
          refine Rq_callVq [_, _, _] dX1_complete_65 clX1_48 rfl (hNs (by decide) h1) recc rfl rfl rfl (fun rv h5 hq => ?_)
          obtain ⟨F, hq⟩ := hq
          cases hs : srch (conb us) (exB sup opp) n (2 * (c / 2) + 2) (pre ++ [c]) with
          | some l =>
            rw [hs] at hq
            obtain ⟨rfl, ch5, g5, g6⟩ := hq
            refine Rq_if_eq_f 73 dX1_complete_68 (by decide) (by decide) ?_
            refine Rq_iconst (1) dX1_complete_71 (by decide) ?_
            refine Rq_zret dX1_complete_72 rfl nz_1 ?_
            exact ⟨Fr.trans (Fr.set (by decide)) F, rfl, ch5, g5, g6⟩
          | none =>
            rw [hs] at hq
            obtain ⟨rfl, ch5, g5, g6⟩ := hq
            refine Rq_if_eq_t 73 dX1_complete_68 (by decide) rfl ?_
            refine Rq_iinc [_, _, _, _, _, _] (1) dX1_complete_73 rfl (by decide) rfl rfl rfl ?_
            refine Rq_goto 23 dX1_complete_76 (by decide) ?_
            rw [nI_1]
            refine Rq_dead [_, _, _, _, _, .retAddr 0] ⟨Or.inr rfl, Or.inr rfl, Or.inr rfl, Or.inr rfl, Or.inr rfl, Or.inl rfl, trivial⟩ ?_
            refine (ik (c + 1) h5 ch5 (by omega) (by omega) (F.at (by decide) (hNs (by decide) h1)) (F.at (by decide) (hNs (by decide) h2)) (F.at (by decide) (hNs (by decide) h3)) g5 (fun j hj => ?_)).mono ?_
            · have := g6 j (by omega)
              rw [getD_snoc_lt hj] at this
              exact ⟨this, (hc j hj).2⟩
            · rintro r h' ⟨y1, y2⟩
              exact ⟨Fr.trans (Fr.trans (Fr.set (by decide)) F) y1, y2⟩
    refine Mq_of [_, _, _, _, _, _] (by decide +kernel) rfl rfl ?_
    refine Rq_iload_n dX1_complete_0 rfl ?_
    refine Rq_iload_n dX1_complete_1 rfl ?_
    refine Rq_icmp_ge_f 14 dX1_complete_2 (by decide) (nI_ge (by omega) (by omega)) ?_
    refine Rq_iload_n dX1_complete_5 rfl ?_
    refine Rq_if_lt_f 14 dX1_complete_6 (by decide) (nI_pos (by omega)) ?_
    refine Rq_iload_n dX1_complete_9 rfl ?_
    refine Rq_iconst (3) dX1_complete_10 (by decide) ?_
    refine Rq_icmp_lt_t 20 dX1_complete_11 (by decide) (nI_lt (b := 3) (by omega) (by decide)) ?_
    refine Rq_iload_n dX1_complete_20 rfl ?_
    refine Rq_istore [_, _, _, _, _, _] dX1_complete_21 rfl rfl rfl ?_
    exact loop (22 - first) first h ch (by omega) hf1 h1 h2 h3 h4 hc
theorem sp_exLit_t (d : Nat) {h : Hp} {us g : Int32} {ch : Nat → Int32} {fs i : Nat} (h1 : h[38]? = some (obE us g (nI fs))) (h4 : h[41]? = some (aI 3 ch)) (hi : i < fs) (hf : fs ≤ 3) : Mx mX1_literalAt (d + 1) [.ref 38, .int (nI i)] h (some (.int (fLit (ch i)))) h := by
  refine Mx_of [_, _, _] (by decide +kernel) rfl rfl ?_
  refine Rx_iload_n dX1_literalAt_0 rfl ?_
  refine Rx_if_lt_f 21 dX1_literalAt_1 (by decide) (nI_pos (by omega)) ?_
  refine Rx_iload_n dX1_literalAt_4 rfl ?_
  refine Rx_aload_n dX1_literalAt_5 rfl ?_
  refine Rx_get dX1_literalAt_6 flX1_29 h1 rfl ?_
  refine Rx_icmp_ge_f 21 dX1_literalAt_9 (by decide) (nI_ge hi (by omega)) ?_
  refine Rx_iload_n dX1_literalAt_12 rfl ?_
  refine Rx_iconst (3) dX1_literalAt_13 (by decide) ?_
  refine Rx_icmp_ge_f 21 dX1_literalAt_14 (by decide) (nI_ge (b := 3) (by omega) (by decide)) ?_
  refine Rx_iconst (1) dX1_literalAt_17 (by decide) ?_
  refine Rx_goto 22 dX1_literalAt_18 (by decide) ?_
  refine Rx_istore_n [_, _, _] dX1_literalAt_22 rfl rfl rfl ?_
  refine Rx_iload_n dX1_literalAt_23 rfl ?_
  refine Rx_if_eq_f 39 dX1_literalAt_24 (by decide) (by decide) ?_
  refine Rx_aload_n dX1_literalAt_27 rfl ?_
  refine Rx_get dX1_literalAt_28 flX1_18 h1 rfl ?_
  refine Rx_iload_n dX1_literalAt_31 rfl ?_
  refine Rx_iald i dX1_literalAt_32 h4 (by omega) (by decide) rfl ?_
  refine Rx_callS [_] dX1_literalAt_33 clX1_60 (sp_literalOf d h (ch i)) rfl rfl rfl ?_
  refine Rx_goto 40 dX1_literalAt_36 (by decide) ?_
  exact Rx_iret dX1_literalAt_40 rfl
theorem sp_exLit_f (d : Nat) {h : Hp} {us g fs : Int32} {i : Nat} (h1 : h[38]? = some (obE us g fs)) (hi : i < 3) (hf : fs ≤ nI i) : Mx mX1_literalAt d [.ref 38, .int (nI i)] h (some (.int 0)) h := by
  refine Mx_of [_, _, _] (by decide +kernel) rfl rfl ?_
  refine Rx_iload_n dX1_literalAt_0 rfl ?_
  refine Rx_if_lt_f 21 dX1_literalAt_1 (by decide) (nI_pos (by omega)) ?_
  refine Rx_iload_n dX1_literalAt_4 rfl ?_
  refine Rx_aload_n dX1_literalAt_5 rfl ?_
  refine Rx_get dX1_literalAt_6 flX1_29 h1 rfl ?_
  refine Rx_icmp_ge_t 21 dX1_literalAt_9 (by decide) hf ?_
  refine Rx_iconst (0) dX1_literalAt_21 (by decide) ?_
  refine Rx_istore_n [_, _, _] dX1_literalAt_22 rfl rfl rfl ?_
  refine Rx_iload_n dX1_literalAt_23 rfl ?_
  refine Rx_if_eq_t 39 dX1_literalAt_24 (by decide) rfl ?_
  refine Rx_iconst (0) dX1_literalAt_39 (by decide) ?_
  exact Rx_iret dX1_literalAt_40 rfl
theorem sp_forget (d : Nat) {h : Hp} {us g fs : Int32} (h1 : h[38]? = some (obE us g fs)) : Mx mX1_forget d [.ref 38] h none (h.set 38 (obE us (-1) fs)) := by
  refine Mx_of [_] (by decide +kernel) rfl rfl ?_
  refine Rx_aload_n dX1_forget_0 rfl ?_
  refine Rx_iconst (-1) dX1_forget_1 (by decide) ?_
  refine Rx_put [_, _, _, _, _, _] dX1_forget_2 fpX1_26 h1 rfl (okv_i _) rfl ?_
  exact Rx_vret dX1_forget_5 rfl
