/-! Explainer.explain -/
def exFind (us : Nat → Bool) (ex : List Nat → Bool) : Nat → Nat → Option (List Nat)
  | 0, _ => none
  | k + 1, size => match srch us ex size 2 [] with
    | some l => some l
    | none => exFind us ex k (size + 1)
theorem srch_len {us : Nat → Bool} {ex : List Nat → Bool} : ∀ (n first : Nat) (pre l : List Nat), srch us ex n first pre = some l → l.length = pre.length + n := by
  intro n
  induction n with
  | zero =>
    intro first pre l h
    simp only [srch] at h
    split at h
    · cases h; rfl
    · cases h
  | succ n ih =>
    intro first pre l h
    simp only [srch] at h
    obtain ⟨c, -, hc⟩ := List.exists_of_findSome?_eq_some h
    split at hc
    · have := ih _ _ _ hc
      rw [List.length_append, List.length_singleton] at this
      omega
    · cases hc
theorem exR_cong {s s' o o' c c' : Nat → Int64} (hs : ∀ j, j < 16 → s j = s' j) (ho : ∀ j, j < 16 → o j = o' j) (hc : ∀ j, j < 16 → c j = c' j) : ∀ (k i : Nat) (b : Bool), i + k = 16 → exR s o c k i b = exR s' o' c' k i b := by
  intro k
  induction k with
  | zero => intro i b _; rfl
  | succ k ih =>
    intro i b hi
    simp only [exR]
    rw [hs i (by omega), ho i (by omega), hc i (by omega), ih (i + 1) _ (by omega)]
theorem exB_cong {s s' o o' : Nat → Int64} (hs : ∀ j, j < 16 → s j = s' j) (ho : ∀ j, j < 16 → o j = o' j) : exB s o = exB s' o' := by
  funext l
  exact exR_cong hs ho (fun _ _ => rfl) 16 0 false rfl
def usI (as : Int32) (c : Nat) : Int32 := (fVars (as ||| (1 : Int32) <<< (nI c &&& 31)) ||| fVars (as ||| (1 : Int32) <<< (nI c &&& 31)) <<< ((1 : Int32) &&& 31)) ^^^ (-1)
/-- the smallest explanation of the literal of code c, the words and the assumptions given -/
def explW (f : Nat → Int64) (as : Int32) (c : Nat) : Option (List Nat) := exFind (conb (usI as c)) (exB (fun i => f i &&& lwv c i) (fun i => f i &&& (lwv c i ^^^ (-1)))) 4 0
def EX (h : Hp) : Prop := ∃ (us g fs : Int32) (s o : Nat → Int64) (ch : Nat → Int32), h[38]? = some (obE us g fs) ∧ h[39]? = some (aL 16 s) ∧ h[40]? = some (aL 16 o) ∧ h[41]? = some (aI 3 ch)
/-- the explainer holds the explanation o of the code c -/
def EH (h : Hp) (c : Nat) (o : Option (List Nat)) : Prop := ∃ (us : Int32) (ch : Nat → Int32), h[41]? = some (aI 3 ch) ∧ match o with
  | some l => h[38]? = some (obE us (nI c) (nI l.length)) ∧ l.length ≤ 3 ∧ ∀ j, j < l.length → ch j = nI (l.getD j 0)
  | none => h[38]? = some (obE us (nI c) (-1))
theorem hset3 {h : Hp} {i j : Nat} {a b a' : va_E} (hij : i ≠ j) : ((h.set i a).set j b).set i a' = (h.set i a').set j b := by
  apply List.ext_getElem?
  intro k
  simp only [List.getElem?_set, List.length_set]
  by_cases h1 : i = k
  · subst h1
    simp [Ne.symm hij]
  · simp [h1]
def selF (s g : Nat → Int64) (i : Nat) : Nat → Int64 := fun j => if j < i then g j else s j
theorem selF_s (s g : Nat → Int64) (i : Nat) : vp_updL (selF s g i) i (g i) = selF s g (i + 1) := by
  funext j
  simp only [vp_updL, selF]
  by_cases h1 : j = i
  · subst h1; rw [if_pos rfl, if_pos (by omega)]
  · by_cases h2 : j < i
    · rw [if_neg h1, if_pos h2, if_pos (by omega)]
    · rw [if_neg h1, if_neg h2, if_neg (by omega)]
theorem expn_in (d : Nat) {h : Hp} {f s o : Nat → Int64} {us fs as : Int32} {c : Nat} {Q : Option Value → Hp → Prop} (hc1 : 2 ≤ c) (hc : c ≤ 21) (m : MI h f) (h1 : h[38]? = some (obE us (nI c) fs)) (h2 : h[39]? = some (aL 16 s)) (h3 : h[40]? = some (aL 16 o))
    (K : Rq mX1_explain (d + 1) 68 [.ref 38, .int (nI c), .ref 32, .int as, .retAddr 0, .retAddr 0, .retAddr 0] [] ((h.set 39 (aL 16 (selF s (fun i => f i &&& lwv c i) 16))).set 40 (aL 16 (selF o (fun i => f i &&& (lwv c i ^^^ (-1))) 16))) Q) :
    ∀ (k i : Nat), i + k = 16 → Rq mX1_explain (d + 1) 8 [.ref 38, .int (nI c), .ref 32, .int as, .int (nI i), .retAddr 0, .retAddr 0] [] ((h.set 39 (aL 16 (selF s (fun i => f i &&& lwv c i) i))).set 40 (aL 16 (selF o (fun i => f i &&& (lwv c i ^^^ (-1))) i))) Q := by
  intro k
  induction k with
  | zero =>
    intro i hi
    have e : i = 16 := by omega
    subst e
    refine Rq_iload dX1_explain_8 rfl ?_
    refine Rq_bipush (16) dX1_explain_10 (by decide) ?_
    refine Rq_icmp_ge_t 68 dX1_explain_12 (by decide) (nI_le (Nat.le_refl _) (by decide)) ?_
    refine Rq_dead [_, _, _, _, .retAddr 0, .retAddr 0, .retAddr 0] ⟨Or.inr rfl, Or.inr rfl, Or.inr rfl, Or.inr rfl, Or.inl rfl, Or.inl rfl, Or.inl rfl, trivial⟩ ?_
    exact K
  | succ k ih =>
    intro i hi
    have g1 := hNs (e' := aL 16 (selF o (fun i => f i &&& (lwv c i ^^^ (-1))) i)) (by decide : (40 : Nat) ≠ 38) (hNs (e' := aL 16 (selF s (fun i => f i &&& lwv c i) i)) (by decide : (39 : Nat) ≠ 38) h1)
    have g2 := hNs (e' := aL 16 (selF o (fun i => f i &&& (lwv c i ^^^ (-1))) i)) (by decide : (40 : Nat) ≠ 39) (hS (aL 16 (selF s (fun i => f i &&& lwv c i) i)) h2)
    have g3 := hS (aL 16 (selF o (fun i => f i &&& (lwv c i ^^^ (-1))) i)) (hNs (e' := aL 16 (selF s (fun i => f i &&& lwv c i) i)) (by decide : (39 : Nat) ≠ 40) h3)
    have m1 : MI ((h.set 39 (aL 16 (selF s (fun i => f i &&& lwv c i) i))).set 40 (aL 16 (selF o (fun i => f i &&& (lwv c i ^^^ (-1))) i))) f := m.fr (T := [39, 40]) (Fr.trans (Fr.set (by decide)) (Fr.set (by decide))) (by decide) (by decide) (by decide)
    refine Rq_iload dX1_explain_8 rfl ?_
    refine Rq_bipush (16) dX1_explain_10 (by decide) ?_
    refine Rq_icmp_ge_f 68 dX1_explain_12 (by decide) (nI_ge (b := 16) (by omega) (by decide)) ?_
    refine Rq_aload_n dX1_explain_15 rfl ?_
    refine Rq_get dX1_explain_16 flX1_26 g1 rfl ?_
    refine Rq_iload dX1_explain_19 rfl ?_
    refine Rq_callS [_, _] dX1_explain_21 clX1_32 (sp_lw d _ hc1 hc (by omega)) rfl rfl rfl ?_
    refine Rq_lstore [_, _, _, _, _, _, _] dX1_explain_24 rfl rfl rfl ?_
    refine Rq_aload_n dX1_explain_26 rfl ?_
    refine Rq_get dX1_explain_27 flX1_9 g1 rfl ?_
    refine Rq_iload dX1_explain_30 rfl ?_
    refine Rq_aload_n dX1_explain_32 rfl ?_
    refine Rq_iload dX1_explain_33 rfl ?_
    refine Rq_callV [_] dX1_explain_35 clX1_38 rfl m1.1 (sp_wordAt d m1 (by omega)) rfl rfl rfl ?_
    refine Rq_lload dX1_explain_38 rfl ?_
    refine Rq_land dX1_explain_40 ?_
    refine Rq_last i dX1_explain_41 g2 (by omega) (by decide) rfl ?_
    rw [selF_s s (fun i => f i &&& lwv c i) i, hset3 (by decide)]
    have k1 := hNs (e' := aL 16 (selF o (fun i => f i &&& (lwv c i ^^^ (-1))) i)) (by decide : (40 : Nat) ≠ 38) (hNs (e' := aL 16 (selF s (fun i => f i &&& lwv c i) (i + 1))) (by decide : (39 : Nat) ≠ 38) h1)
    have k3 := hS (aL 16 (selF o (fun i => f i &&& (lwv c i ^^^ (-1))) i)) (hNs (e' := aL 16 (selF s (fun i => f i &&& lwv c i) (i + 1))) (by decide : (39 : Nat) ≠ 40) h3)
    have m2 : MI ((h.set 39 (aL 16 (selF s (fun i => f i &&& lwv c i) (i + 1)))).set 40 (aL 16 (selF o (fun i => f i &&& (lwv c i ^^^ (-1))) i))) f := m.fr (T := [39, 40]) (Fr.trans (Fr.set (by decide)) (Fr.set (by decide))) (by decide) (by decide) (by decide)
    refine Rq_aload_n dX1_explain_42 rfl ?_
    refine Rq_get dX1_explain_43 flX1_15 k1 rfl ?_
    refine Rq_iload dX1_explain_46 rfl ?_
    refine Rq_aload_n dX1_explain_48 rfl ?_
    refine Rq_iload dX1_explain_49 rfl ?_
    refine Rq_callV [_] dX1_explain_51 clX1_38 rfl m2.1 (sp_wordAt d m2 (by omega)) rfl rfl rfl ?_
    refine Rq_lload dX1_explain_54 rfl ?_
    refine Rq_ldc2 dX1_explain_56 kcX1_42 ?_
    refine Rq_lxor dX1_explain_59 ?_
    refine Rq_land dX1_explain_60 ?_
    refine Rq_last i dX1_explain_61 k3 (by omega) (by decide) rfl ?_
    rw [selF_s o (fun i => f i &&& (lwv c i ^^^ (-1))) i, List.set_set]
    refine Rq_iinc [_, _, _, _, _, _, _] (1) dX1_explain_62 rfl (by decide) rfl rfl rfl ?_
    refine Rq_goto 8 dX1_explain_65 (by decide) ?_
    rw [nI_1]
    refine Rq_dead [_, _, _, _, _, .retAddr 0, .retAddr 0] ⟨Or.inr rfl, Or.inr rfl, Or.inr rfl, Or.inr rfl, Or.inr rfl, Or.inl rfl, Or.inl rfl, trivial⟩ ?_
    exact ih (i + 1) (by omega)
/-- what a search of sizes leaves -/
def expPost (h : Hp) (c : Nat) (o : Option (List Nat)) (r : Option Value) (h' : Hp) : Prop := r = none ∧ Fr [38, 39, 40, 41] h h' ∧ EX h' ∧ EH h' c o
theorem expn_sz (d : Nat) {us as : Int32} {s o : Nat → Int64} {c : Nat} : ∀ (k size : Nat) (h : Hp) (ch : Nat → Int32), size + k = 4 → h[38]? = some (obE us (nI c) (-1)) → h[39]? = some (aL 16 s) → h[40]? = some (aL 16 o) → h[41]? = some (aI 3 ch) →
    Rq mX1_explain (d + 6) 102 [.ref 38, .int (nI c), .ref 32, .int as, .retAddr 0, .int (nI size), .retAddr 0] [] h (expPost h c (exFind (conb us) (exB s o) k size)) := by
  intro k
  induction k with
  | zero =>
    intro size h ch hk h1 h2 h3 h4
    have e : size = 4 := by omega
    subst e
    refine Rq_iload dX1_explain_102 rfl ?_
    refine Rq_iconst (3) dX1_explain_104 (by decide) ?_
    refine Rq_icmp_gt_t 139 dX1_explain_105 (by decide) (nI_lt (a := 3) (by decide) (by decide)) ?_
    refine Rq_vret dX1_explain_139 rfl ?_
    exact ⟨rfl, Fr.rfl', ⟨_, _, _, _, _, _, h1, h2, h3, h4⟩, us, ch, h4, h1⟩
  | succ k ih =>
    intro size h ch hk h1 h2 h3 h4
    have sc := sp_complete (us := us) (g := nI c) (fs := -1) (sup := s) (opp := o) (d + (3 - size)) size [] 2 size h ch (by simp) (by omega) (by decide) (by decide) h1 h2 h3 h4 (fun j hj => absurd hj (Nat.not_lt_zero _))
    rw [show d + (3 - size) + size + 2 = d + 5 by omega] at sc
    refine Rq_iload dX1_explain_102 rfl ?_
    refine Rq_iconst (3) dX1_explain_104 (by decide) ?_
    refine Rq_icmp_gt_f 139 dX1_explain_105 (by decide) (nI_nlt (b := size) (a := 3) (by omega) (by decide)) ?_
    refine Rq_aload_n dX1_explain_108 rfl ?_
    refine Rq_get dX1_explain_109 flX1_29 h1 rfl ?_
    refine Rq_iconst (-1) dX1_explain_112 (by decide) ?_
    refine Rq_icmp_ne_f 139 dX1_explain_113 (by decide) rfl ?_
    refine Rq_aload_n dX1_explain_116 rfl ?_
    refine Rq_iconst (0) dX1_explain_117 (by decide) ?_
    refine Rq_iconst (2) dX1_explain_118 (by decide) ?_
    refine Rq_iload dX1_explain_119 rfl ?_
    refine Rq_callVq [_, _, _] dX1_explain_121 clX1_48 rfl h1 sc rfl rfl rfl (fun rv h5 hq => ?_)
    obtain ⟨F, hq⟩ := hq
    have g1 := F.at (by decide) h1
    have g2 := F.at (by decide) h2
    have g3 := F.at (by decide) h3
    simp only [exFind]
    cases hs : srch (conb us) (exB s o) size 2 [] with
    | none =>
      rw [hs] at hq
      obtain ⟨rfl, ch5, g4, -⟩ := hq
      refine Rq_if_eq_t 133 dX1_explain_124 (by decide) rfl ?_
      refine Rq_iinc [_, _, _, _, _, _, _] (1) dX1_explain_133 rfl (by decide) rfl rfl rfl ?_
      refine Rq_goto 102 dX1_explain_136 (by decide) ?_
      rw [nI_1]
      refine (ih (size + 1) h5 ch5 (by omega) g1 g2 g3 g4).mono ?_
      rintro r h' ⟨y1, y2, y3⟩
      exact ⟨y1, Fr.trans (F.mono (by decide)) y2, y3⟩
    | some l =>
      rw [hs] at hq
      obtain ⟨rfl, ch5, g4, g5⟩ := hq
      have ll := srch_len _ _ _ _ hs
      rw [List.length_nil, Nat.zero_add] at ll
      refine Rq_if_eq_f 133 dX1_explain_124 (by decide) (by decide) ?_
      refine Rq_aload_n dX1_explain_127 rfl ?_
      refine Rq_iload dX1_explain_128 rfl ?_
      refine Rq_put [_, _, _, _, _, _] dX1_explain_130 fpX1_29 g1 rfl (okv_i _) rfl ?_
      have k1 := hS (obE us (nI c) (nI size)) g1
      have ne : ¬ nI size = -1 := fun z => by
        have := congrArg Int32.toInt z
        rw [nI_toInt (by omega)] at this
        have h2 : (-1 : Int32).toInt = -1 := by decide
        omega
      have fin : expPost h c (some l) none (h5.set 38 (obE us (nI c) (nI size))) := ⟨rfl, Fr.trans (F.mono (by decide)) (Fr.set (by decide)), ⟨_, _, _, _, _, _, k1, hNs (by decide) g2, hNs (by decide) g3, hNs (by decide) g4⟩, us, ch5, hNs (by decide) g4, by rw [ll]; exact k1, by omega, fun j hj => g5 j (by omega)⟩
      by_cases s3 : size + 1 ≤ 3
      · refine Rq_iinc [_, _, _, _, _, _, _] (1) dX1_explain_133 rfl (by decide) rfl rfl rfl ?_
        refine Rq_goto 102 dX1_explain_136 (by decide) ?_
        rw [nI_1]
        refine Rq_iload dX1_explain_102 rfl ?_
        refine Rq_iconst (3) dX1_explain_104 (by decide) ?_
        refine Rq_icmp_gt_f 139 dX1_explain_105 (by decide) (nI_nlt (b := size + 1) (a := 3) s3 (by decide)) ?_
        refine Rq_aload_n dX1_explain_108 rfl ?_
        refine Rq_get dX1_explain_109 flX1_29 k1 rfl ?_
        refine Rq_iconst (-1) dX1_explain_112 (by decide) ?_
        refine Rq_icmp_ne_t 139 dX1_explain_113 (by decide) ne ?_
        refine Rq_vret dX1_explain_139 rfl ?_
        exact fin
      · refine Rq_iinc [_, _, _, _, _, _, _] (1) dX1_explain_133 rfl (by decide) rfl rfl rfl ?_
        refine Rq_goto 102 dX1_explain_136 (by decide) ?_
        rw [nI_1]
        refine Rq_iload dX1_explain_102 rfl ?_
        refine Rq_iconst (3) dX1_explain_104 (by decide) ?_
        refine Rq_icmp_gt_t 139 dX1_explain_105 (by decide) (nI_lt (a := 3) (by omega) (by omega)) ?_
        refine Rq_vret dX1_explain_139 rfl ?_
        exact fin
theorem sp_explain (d : Nat) {h : Hp} {f : Nat → Int64} {as : Int32} {c : Nat} (hc1 : 2 ≤ c) (hc : c ≤ 21) (m : MI h f) (x : EX h) : Mq mX1_explain (d + 6) [.ref 38, .int (nI c), .ref 32, .int as] h (expPost h c (explW f as c)) := by
  obtain ⟨us, g, fs, s, o, ch, h1, h2, h3, h4⟩ := x
  refine Mq_of [_, _, _, _, _, _, _] (by decide +kernel) rfl rfl ?_
  refine Rq_aload_n dX1_explain_0 rfl ?_
  refine Rq_iload_n dX1_explain_1 rfl ?_
  refine Rq_put [_, _, _, _, _, _] dX1_explain_2 fpX1_26 h1 rfl (okv_i _) rfl ?_
  refine Rq_iconst (0) dX1_explain_5 (by decide) ?_
  refine Rq_istore [_, _, _, _, _, _, _] dX1_explain_6 rfl rfl rfl ?_
  have g1 := hS (obE us (nI c) fs) h1
  have := expn_in (d + 5) (f := f) (s := s) (o := o) (as := as) (c := c) (Q := expPost h c (explW f as c)) hc1 hc (m.fr (T := [38]) (Fr.set (a := 38) (e := obE us (nI c) fs) (by decide)) (by decide) (by decide) (by decide)) g1 (hNs (by decide) h2) (hNs (by decide) h3) ?_ 16 0 rfl
  · rw [show selF s (fun i => f i &&& lwv c i) 0 = s from by funext j; simp [selF], show selF o (fun i => f i &&& (lwv c i ^^^ (-1))) 0 = o from by funext j; simp [selF], hset_id (hNs (by decide) h2), hset_id (hNs (by decide) h3)] at this
    refine Rq_dead [_, _, _, _, _, .retAddr 0, .retAddr 0] ⟨Or.inr rfl, Or.inr rfl, Or.inr rfl, Or.inr rfl, Or.inr rfl, Or.inl rfl, Or.inl rfl, trivial⟩ ?_
    exact this
  · generalize hE1 : selF s (fun i => f i &&& lwv c i) 16 = s1
    generalize hE2 : selF o (fun i => f i &&& (lwv c i ^^^ (-1))) 16 = o1
    have k1 := hNs (e' := aL 16 o1) (by decide : (40 : Nat) ≠ 38) (hNs (e' := aL 16 s1) (by decide : (39 : Nat) ≠ 38) g1)
    have eb : exB s1 o1 = exB (fun i => f i &&& lwv c i) (fun i => f i &&& (lwv c i ^^^ (-1))) := by
      refine exB_cong (fun j hj => ?_) (fun j hj => ?_)
      · rw [← hE1, selF, if_pos hj]
      · rw [← hE2, selF, if_pos hj]
    refine Rq_iload_n dX1_explain_68 rfl ?_
    refine Rq_iconst (1) dX1_explain_69 (by decide) ?_
    refine Rq_aload_n dX1_explain_70 rfl ?_
    refine Rq_get dX1_explain_71 flX1_26 k1 rfl ?_
    refine Rq_ishl dX1_explain_74 ?_
    refine Rq_ior dX1_explain_75 ?_
    refine Rq_callS [_] dX1_explain_76 clX1_44 (sp_varsOf (d + 5) _ _) rfl rfl rfl ?_
    refine Rq_istore [_, _, _, _, _, _, _] dX1_explain_79 rfl rfl rfl ?_
    refine Rq_aload_n dX1_explain_81 rfl ?_
    refine Rq_iload dX1_explain_82 rfl ?_
    refine Rq_iload dX1_explain_84 rfl ?_
    refine Rq_iconst (1) dX1_explain_86 (by decide) ?_
    refine Rq_ishl dX1_explain_87 ?_
    refine Rq_ior dX1_explain_88 ?_
    refine Rq_iconst (-1) dX1_explain_89 (by decide) ?_
    refine Rq_ixor dX1_explain_90 ?_
    refine Rq_put [_, _, _, _, _, _] dX1_explain_91 fpX1_22 k1 rfl (okv_i _) rfl ?_
    have k2 := hS (obE (usI as c) (nI c) fs) k1
    refine Rq_aload_n dX1_explain_94 rfl ?_
    refine Rq_iconst (-1) dX1_explain_95 (by decide) ?_
    refine Rq_put [_, _, _, _, _, _] dX1_explain_96 fpX1_29 k2 rfl (okv_i _) rfl ?_
    refine Rq_iconst (0) dX1_explain_99 (by decide) ?_
    refine Rq_istore [_, _, _, _, _, _, _] dX1_explain_100 rfl rfl rfl ?_
    have k3 := hS (obE (usI as c) (nI c) (-1)) k2
    refine Rq_dead [_, _, _, _, .retAddr 0, _, .retAddr 0] ⟨Or.inr rfl, Or.inr rfl, Or.inr rfl, Or.inr rfl, Or.inl rfl, Or.inr rfl, Or.inl rfl, trivial⟩ ?_
    refine (expn_sz d (us := usI as c) (s := s1) (o := o1) (c := c) 4 0 _ ch rfl k3 ?_ ?_ ?_).mono ?_
    · exact hNs (by decide) (hNs (by decide) (hNs (by decide) (hS _ (hNs (by decide) h2))))
    · exact hNs (by decide) (hNs (by decide) (hS _ (hNs (by decide) (hNs (by decide) h3))))
    · exact hNs (by decide) (hNs (by decide) (hNs (by decide) (hNs (by decide) (hNs (by decide) h4))))
    · rintro r h' ⟨y1, y2, y3, y4⟩
      refine ⟨y1, Fr.trans (Fr.trans (Fr.set (by decide)) (Fr.trans (Fr.set (by decide)) (Fr.trans (Fr.set (by decide)) (Fr.trans (Fr.set (by decide)) (Fr.set (by decide)))))) y2, y3, ?_⟩
      unfold explW
      rw [← eb]
      exact y4
