/-! Graph.explore, as a function: table, two counters, two flags -/
abbrev Es : Type := List Nd × Int32 × Int32 × Int32 × Int32
def GIs (h : Hp) (f : Nat → Int32) (rs rd : Int32) (s : Es) : Prop := GI h f s.1 rs rd s.2.1 s.2.2.1 s.2.2.2.1 s.2.2.2.2
def lkD (T : List Nd) (l : List Int32) : Nat → Option Int32
  | 0 => none
  | k + 1 => if (T.getD k ([], 0)).1 = l then some (T.getD k ([], 0)).2 else lkD T l k
def maxI (x y : Int32) : Int32 := if x < y then y else x
def exD (F : List Int32 → Es → Int32 × Es) (l : List Int32) (s : Es) : Int32 × Es :=
  (maxI (F (resC (fOpp (fBit (nI (mfv bothC l 10).1))) l) (s.1, s.2.1 + 1, s.2.2)).1 (F (resC (fBit (nI (mfv bothC l 10).1)) l) (F (resC (fOpp (fBit (nI (mfv bothC l 10).1))) l) (s.1, s.2.1 + 1, s.2.2)).2).1,
    (F (resC (fBit (nI (mfv bothC l 10).1)) l) (F (resC (fOpp (fBit (nI (mfv bothC l 10).1))) l) (s.1, s.2.1 + 1, s.2.2)).2).2)
def exPs (F : List Int32 → Es → Int32 × Es) (l : List Int32) (a : Int32 × Int32 × Es) (c : Int32) : Int32 × Int32 × Es :=
  if fVars c &&& a.2.1 = 0 then (maxI a.1 (F (tpC (cvr fVars l 10 (fVars c)) l) a.2.2).1, a.2.1 ||| cvr fVars l 10 (fVars c), (F (tpC (cvr fVars l 10 (fVars c)) l) a.2.2).2) else a
def exP (F : List Int32 → Es → Int32 × Es) (l : List Int32) (s : Es) : Int32 × Int32 × Es := l.foldl (exPs F l) (0, 0, (s.1, s.2.1, s.2.2.1 + 1, s.2.2.2))
def exC : Nat → List Int32 → Es → Int32 × Es
  | 0, _, s => (0, s)
  | f + 1, l, s =>
    if l.length = 0 then (0, (s.1, s.2.1, s.2.2.1, 1, s.2.2.2.2))
    else if l.getD 0 0 = 0 then (0, (s.1, s.2.1, s.2.2.1, s.2.2.2.1, 1))
    else match lkD s.1 l s.1.length with
      | some d => (d, s)
      | none => if cvr fVars l 10 (fVars (l.getD 0 0)) = fVars (orL l) then ((exD (exC f) l s).1 + 1, ((exD (exC f) l s).2.1 ++ [(l, (exD (exC f) l s).1 + 1)], (exD (exC f) l s).2.2))
        else ((exP (exC f) l s).1 + 1, ((exP (exC f) l s).2.2.1 ++ [(l, (exP (exC f) l s).1 + 1)], (exP (exC f) l s).2.2.2))
def Mono (F : List Int32 → Es → Int32 × Es) : Prop := ∀ l s, s.1.length ≤ (F l s).2.1.length
theorem exPs_mono {F : List Int32 → Es → Int32 × Es} (hF : Mono F) (l : List Int32) (a : Int32 × Int32 × Es) (c : Int32) : a.2.2.1.length ≤ (exPs F l a c).2.2.1.length := by
  unfold exPs
  split
  · exact hF _ _
  · exact Nat.le_refl _
theorem exPf_mono {F : List Int32 → Es → Int32 × Es} (hF : Mono F) (l : List Int32) : ∀ (m : List Int32) (a : Int32 × Int32 × Es), a.2.2.1.length ≤ (m.foldl (exPs F l) a).2.2.1.length := by
  intro m
  induction m with
  | nil => intro a; exact Nat.le_refl _
  | cons c m ih => intro a; exact Nat.le_trans (exPs_mono hF l a c) (ih _)
theorem exC_mono : ∀ f, Mono (exC f) := by
  intro f
  induction f with
  | zero => intro l s; exact Nat.le_refl _
  | succ f ih =>
    intro l s
    unfold exC
    split
    · exact Nat.le_refl _
    · split
      · exact Nat.le_refl _
      · cases lkD s.1 l s.1.length with
        | some d => exact Nat.le_refl _
        | none =>
          simp only
          split
          · simp only [List.length_append, List.length_singleton]
            have h1 := ih (resC (fOpp (fBit (nI (mfv bothC l 10).1))) l) (s.1, s.2.1 + 1, s.2.2)
            have h2 := ih (resC (fBit (nI (mfv bothC l 10).1)) l) (exC f (resC (fOpp (fBit (nI (mfv bothC l 10).1))) l) (s.1, s.2.1 + 1, s.2.2)).2
            simp only [exD]
            simp only at h1
            omega
          · simp only [List.length_append, List.length_singleton]
            have h1 := exPf_mono ih l l (0, 0, (s.1, s.2.1, s.2.2.1 + 1, s.2.2.2))
            simp only at h1
            simp only [exP]
            omega
theorem fnd_ok {T : List Nd} {l : List Int32} : ∀ k, k ≤ 1024 → (fnd T l k = -1 ∧ lkD T l k = none) ∨ ∃ j, j < k ∧ fnd T l k = nI j ∧ lkD T l k = some (T.getD j ([], 0)).2
  | 0, _ => Or.inl ⟨rfl, rfl⟩
  | k + 1, hk => by
    unfold fnd lkD
    by_cases c : (T.getD k ([], 0)).1 = l
    · rw [if_pos c, if_pos c]; exact Or.inr ⟨k, by omega, rfl, rfl⟩
    · rw [if_neg c, if_neg c]
      rcases fnd_ok (T := T) (l := l) k (by omega) with h | ⟨j, h1, h2⟩
      · exact Or.inl h
      · exact Or.inr ⟨j, by omega, h2⟩
/-- what an exploring call at level L leaves -/
def exPost (h : Hp) (f : Nat → Int32) (L : Nat) (rs rd v : Int32) (s : Es) (r : Option Value) (h' : Hp) : Prop := r = some (.int v) ∧ FG h h' ∧ ∃ f', GIs h' f' rs rd s ∧ ∀ k, k < 16 * (L + 1) → f' k = f k
theorem GI.cell {h : Hp} {f : Nat → Int32} {T : List Nd} {rs rd dt at' ht hf : Int32} (g : GI h f T rs rd dt at' ht hf) : ∃ nr nz nd nn, h[25]? = some (obG nr nz nd nn (nI T.length) rs rd dt at' ht hf) ∧ h[26]? = some (aI 176 f) := by
  obtain ⟨nr, nz, nd, nn, cap, heads, h1, h2, h3, hh, g, hc, ho, hne, lb⟩ := g
  exact ⟨nr, nz, nd, nn, h1, h2⟩
/-- the rows change -/
theorem GI.rows {h : Hp} {f f' : Nat → Int32} {T : List Nd} {rs rd dt at' ht hf : Int32} (g : GI h f T rs rd dt at' ht hf) : GI (h.set 26 (aI 176 f')) f' T rs rd dt at' ht hf ∧ FG h (h.set 26 (aI 176 f')) := by
  obtain ⟨nr, nz, nd, nn, cap, heads, h1, h2, h3, hh, ⟨NR, NZ, ND, NN, g1, g2, g3, g4, g5⟩, hc, ⟨o1, o2, o3, o4⟩, hne, lb⟩ := g
  have r1 := o1.ne (k := 26) (by omega); have r2 := o2.ne (k := 26) (by omega); have r3 := o3.ne (k := 26) (by omega); have r4 := o4.ne (k := 26) (by omega)
  exact ⟨⟨nr, nz, nd, nn, cap, heads, hNs (by decide) h1, hS _ h2, hNs (by decide) h3, hh, ⟨NR, NZ, ND, NN, hNs (Ne.symm r1) g1, hNs (Ne.symm r2) g2, hNs (Ne.symm r3) g3, hNs (Ne.symm r4) g4, g5⟩, hc, ⟨o1, o2, o3, o4⟩, hne, lb.set h2 rfl⟩, FG.set (by omega)⟩
/-- the object's own numbers change -/
theorem GI.nums {h : Hp} {f : Nat → Int32} {T : List Nd} {nr nz nd nn : Nat} {rs rd dt at' ht hf rs' rd' dt' at'' ht' hf' : Int32} (g : GI h f T rs rd dt at' ht hf) (h0 : h[25]? = some (obG nr nz nd nn (nI T.length) rs rd dt at' ht hf)) : GI (h.set 25 (obG nr nz nd nn (nI T.length) rs' rd' dt' at'' ht' hf')) f T rs' rd' dt' at'' ht' hf' ∧ FG h (h.set 25 (obG nr nz nd nn (nI T.length) rs' rd' dt' at'' ht' hf')) := by
  obtain ⟨nr', nz', nd', nn', cap, heads, h1, h2, h3, hh, ⟨NR, NZ, ND, NN, g1, g2, g3, g4, g5⟩, hc, ⟨o1, o2, o3, o4⟩, hne, lb⟩ := g
  have e := Option.some.inj (h0.symm.trans h1)
  simp only [Sum.inr.injEq, Prod.mk.injEq, List.cons.injEq, Value.ref.injEq, true_and] at e
  obtain ⟨rfl, rfl, rfl, rfl, -⟩ := e
  have r1 := o1.ne (k := 25) (by omega); have r2 := o2.ne (k := 25) (by omega); have r3 := o3.ne (k := 25) (by omega); have r4 := o4.ne (k := 25) (by omega)
  exact ⟨⟨nr, nz, nd, nn, cap, heads, hS _ h1, hNs (by decide) h2, hNs (by decide) h3, hh, ⟨NR, NZ, ND, NN, hNs (Ne.symm r1) g1, hNs (Ne.symm r2) g2, hNs (Ne.symm r3) g3, hNs (Ne.symm r4) g4, g5⟩, hc, ⟨o1, o2, o3, o4⟩, hne, lb.set h1 rfl⟩, FG.set (by omega)⟩
/-- n levels are enough for what lies below a row -/
def Rk : Nat → List Int32 → Prop
  | 0, _ => False
  | n + 1, l => l.length = 0 ∨ l.getD 0 0 = 0 ∨ (if cvr fVars l 10 (fVars (l.getD 0 0)) = fVars (orL l) then Rk n (resC (fOpp (fBit (nI (mfv bothC l 10).1))) l) ∧ Rk n (resC (fBit (nI (mfv bothC l 10).1)) l) else ∀ c ∈ l, Rk n (tpC (cvr fVars l 10 (fVars c)) l))
/-- what exploring is asked to be at level L -/
def exOK (d L n : Nat) (F : List Int32 → Es → Int32 × Es) : Prop := ∀ (l : List Int32) (s : Es) (h : Hp) (f : Nat → Int32) (rs rd : Int32), Rk n l → GIs h f rs rd s → rw f (16 * L) l.length = l → l.length ≤ 16 → (F l s).2.1.length ≤ 1024 → Mq mX3_explore d [.ref 25, .int (nI L), .int (nI l.length)] h (exPost h f L rs rd (F l s).1 (F l s).2)
theorem resC_len (t : Int32) (l : List Int32) : (resC t l).length ≤ l.length := by
  have key : ∀ (m a : List Int32), (m.foldl (addR t) a).length ≤ a.length + m.length := by
    intro m
    induction m with
    | nil => intro a; simp
    | cons c m ih =>
      intro a
      have h1 := ih (addR t a c)
      have h2 := addR_len t a c
      simp only [List.foldl_cons, List.length_cons]
      omega
  have := key l []
  simpa [resC] using this
theorem tpC_len (t : Int32) (l : List Int32) : (tpC t l).length ≤ l.length := by
  have key : ∀ (m a : List Int32), (m.foldl (fun a c => if fVars c &&& t = 0 then a else ins a c) a).length ≤ a.length + m.length := by
    intro m
    induction m with
    | nil => intro a; simp
    | cons c m ih =>
      intro a
      simp only [List.foldl_cons, List.length_cons]
      have h1 := ih (if fVars c &&& t = 0 then a else ins a c)
      have h2 : (if fVars c &&& t = 0 then a else ins a c).length ≤ a.length + 1 := by
        split
        · omega
        · exact (ins_len _ _).2
      omega
  have := key l []
  simpa [tpC] using this
theorem sp_exD {d L n : Nat} {F : List Int32 → Es → Int32 × Es} (hF : exOK (d + 4) (L + 1) n F) (hM : Mono F) (hL : L + 1 < 11) (l : List Int32) (s : Es) (h : Hp) (f : Nat → Int32) (rs rd : Int32) (g : GIs h f rs rd s) (hl : rw f (16 * L) l.length = l) (hn : l.length ≤ 16) (hT : (exD F l s).2.1.length ≤ 1024) (k01 : Rk n (resC (fOpp (fBit (nI (mfv bothC l 10).1))) l)) (k02 : Rk n (resC (fBit (nI (mfv bothC l 10).1)) l)) :
    Mq mX3_exploreDecision (d + 5) [.ref 25, .int (nI L), .int (nI l.length)] h (exPost h f L rs rd (exD F l s).1 (exD F l s).2) := by
  obtain ⟨nr, nz, nd, nn, h1, h2⟩ := GI.cell g
  obtain ⟨g', F0⟩ := GI.nums (rs' := rs) (rd' := rd) (dt' := s.2.1 + 1) (at'' := s.2.2.1) (ht' := s.2.2.2.1) (hf' := s.2.2.2.2) g h1
  have k1 := hS (obG nr nz nd nn (nI s.1.length) rs rd (s.2.1 + 1) s.2.2.1 s.2.2.2.1 s.2.2.2.2) h1
  have k2 := hNs (e' := obG nr nz nd nn (nI s.1.length) rs rd (s.2.1 + 1) s.2.2.1 s.2.2.2.1 s.2.2.2.2) (by decide : (25 : Nat) ≠ 26) h2
  unfold exD at hT ⊢
  simp only at hT ⊢
  have sm := sp_mfv (d + 2) (b := 16 * L) (n := l.length) k1 k2 (by omega)
  rw [hl] at sm
  generalize hp : fBit (nI (mfv bothC l 10).1) = pb at hT k01 k02 ⊢
  have m1 := hM (resC pb l) (F (resC (fOpp pb) l) (s.1, s.2.1 + 1, s.2.2)).2
  have sl := sp_setLiteral (d + 2) (L := L) (n := l.length) (t := fOpp pb) k1 k2 hL hn
  rw [hl] at sl
  refine Mq_of [_, _, _, _, _, _] (by decide +kernel) rfl rfl ?_
  refine Rq_aload_n dX3_exploreDecision_0 rfl ?_
  refine Rq_dup dX3_exploreDecision_1 rfl ?_
  refine Rq_get dX3_exploreDecision_2 flX3_40 h1 rfl ?_
  refine Rq_iconst (1) dX3_exploreDecision_5 (by decide) ?_
  refine Rq_iadd dX3_exploreDecision_6 ?_
  refine Rq_put [_, _, _, _, _, _, _, _, _, _, _, _, _] dX3_exploreDecision_7 fpX3_40 h1 rfl (okv_i _) rfl ?_
  refine Rq_aload_n dX3_exploreDecision_10 rfl ?_
  refine Rq_iload_n dX3_exploreDecision_11 rfl ?_
  refine Rq_bipush (16) dX3_exploreDecision_12 (by decide) ?_
  refine Rq_imul dX3_exploreDecision_14 ?_
  refine Rq_iload_n dX3_exploreDecision_15 rfl ?_
  rw [show (16 : Int32) = nI 16 from rfl, pk_mul, Nat.mul_comm L 16]
  refine Rq_callV [_, _] dX3_exploreDecision_16 clX3_83 rfl k1 sm rfl rfl rfl ?_
  refine Rq_callS [_] dX3_exploreDecision_19 clX3_112 (sp_bitOf (d + 3) _ _) rfl rfl rfl ?_
  rw [hp]
  refine Rq_istore_n [_, _, _, _, _, _] dX3_exploreDecision_22 rfl rfl rfl ?_
  refine Rq_aload_n dX3_exploreDecision_23 rfl ?_
  refine Rq_iload_n dX3_exploreDecision_24 rfl ?_
  refine Rq_iconst (1) dX3_exploreDecision_25 (by decide) ?_
  refine Rq_iadd dX3_exploreDecision_26 ?_
  rw [nI_1]
  refine Rq_aload_n dX3_exploreDecision_27 rfl ?_
  refine Rq_iload_n dX3_exploreDecision_28 rfl ?_
  refine Rq_iload_n dX3_exploreDecision_29 rfl ?_
  refine Rq_iload_n dX3_exploreDecision_30 rfl ?_
  refine Rq_callS [_] dX3_exploreDecision_31 clX3_115 (sp_oppOf (d + 4) _ _) rfl rfl rfl ?_
  refine Rq_callVq [_, _, _] dX3_exploreDecision_34 clX3_118 rfl k1 sl rfl rfl rfl (fun rv h3 hq => ?_)
  obtain ⟨rfl, f3, rfl, q1, q2⟩ := hq
  obtain ⟨g3, F3⟩ := GI.rows (f' := f3) g'
  obtain ⟨nr3, nz3, nd3, nn3, j1, j2⟩ := GI.cell g3
  have ex1 := hF (resC (fOpp pb) l) (s.1, s.2.1 + 1, s.2.2) _ f3 rs rd k01 g3 q1 (by have := resC_len (fOpp pb) l; omega) (by omega)
  refine Rq_callVq [_, _] dX3_exploreDecision_37 clX3_72 rfl j1 ex1 rfl rfl rfl (fun rv h4 hq => ?_)
  obtain ⟨rfl, F4, f4, g4, q4⟩ := hq
  refine Rq_istore [_, _, _, _, _, _] dX3_exploreDecision_40 rfl rfl rfl ?_
  refine Rq_aload_n dX3_exploreDecision_42 rfl ?_
  refine Rq_iload_n dX3_exploreDecision_43 rfl ?_
  refine Rq_iconst (1) dX3_exploreDecision_44 (by decide) ?_
  refine Rq_iadd dX3_exploreDecision_45 ?_
  rw [nI_1]
  obtain ⟨nr4, nz4, nd4, nn4, i1, i2⟩ := GI.cell g4
  have hl4 : rw f4 (16 * L) l.length = l := by
    rw [← hl, rw_len]
    exact rw_cong (fun j hj => by rw [q4 _ (by omega), q2 _ (by omega)])
  have sl2 := sp_setLiteral (d + 2) (L := L) (n := l.length) (t := pb) i1 i2 hL hn
  rw [hl4] at sl2
  refine Rq_aload_n dX3_exploreDecision_46 rfl ?_
  refine Rq_iload_n dX3_exploreDecision_47 rfl ?_
  refine Rq_iload_n dX3_exploreDecision_48 rfl ?_
  refine Rq_iload_n dX3_exploreDecision_49 rfl ?_
  refine Rq_callVq [_, _, _] dX3_exploreDecision_50 clX3_118 rfl i1 sl2 rfl rfl rfl (fun rv h5 hq => ?_)
  obtain ⟨rfl, f5, rfl, q5, q6⟩ := hq
  obtain ⟨g5, F5⟩ := GI.rows (f' := f5) g4
  obtain ⟨nr5, nz5, nd5, nn5, x1, x2⟩ := GI.cell g5
  have ex2 := hF (resC pb l) (F (resC (fOpp pb) l) (s.1, s.2.1 + 1, s.2.2)).2 _ f5 rs rd k02 g5 q5 (by have := resC_len pb l; omega) hT
  refine Rq_callVq [_, _] dX3_exploreDecision_53 clX3_72 rfl x1 ex2 rfl rfl rfl (fun rv h6 hq => ?_)
  obtain ⟨rfl, F6, f6, g6, q7⟩ := hq
  refine Rq_istore [_, _, _, _, _, _] dX3_exploreDecision_56 rfl rfl rfl ?_
  refine Rq_iload dX3_exploreDecision_58 rfl ?_
  refine Rq_iload dX3_exploreDecision_60 rfl ?_
  refine Rq_mmax dX3_exploreDecision_62 clX3_121 mmax_1 mi_1 mmax_2 rfl ?_
  refine Rq_iret dX3_exploreDecision_65 rfl ?_
  exact ⟨rfl, (((F0.trans F3).trans F4).trans F5).trans F6, f6, g6, fun k hk => by rw [q7 k (by omega), q6 k (by omega), q4 k (by omega), q2 k (by omega)]⟩
theorem exP_loop {d L n : Nat} {F : List Int32 → Es → Int32 × Es} (hF : exOK (d + 4) (L + 1) n F) (hM : Mono F) (hL : L + 1 < 11) (l : List Int32) (f : Nat → Int32) (h0 : Hp) (rs rd : Int32) (a0 : Int32 × Int32 × Es) (hl : rw f (16 * L) l.length = l) (hn : l.length ≤ 16) (hT : (l.foldl (exPs F l) a0).2.2.1.length ≤ 1024) (kk : ∀ c ∈ l, Rk n (tpC (cvr fVars l 10 (fVars c)) l)) : ∀ (k i : Nat) (h : Hp) (f' : Nat → Int32) (a : Int32 × Int32 × Es), i + k = l.length → a = (l.take i).foldl (exPs F l) a0 → GIs h f' rs rd a.2.2 → (∀ k, k < 16 * (L + 1) → f' k = f k) → FG h0 h →
    Rq mX3_exploreParts (d + 5) 24 [.ref 25, .int (nI L), .int (nI l.length), .int (nI (16 * L)), .int a.1, .int a.2.1, .int (nI (16 * L + i)), .retAddr 0] [] h (exPost h0 f L rs rd (l.foldl (exPs F l) a0).1 (l.foldl (exPs F l) a0).2.2) := by
  intro k
  induction k with
  | zero =>
    intro i h f' a hi ha g hf' F0
    have e : i = l.length := by omega
    rw [e, List.take_length] at ha
    subst ha
    rw [e]
    refine Rq_iload dX3_exploreParts_24 rfl ?_
    refine Rq_iload_n dX3_exploreParts_26 rfl ?_
    refine Rq_iload_n dX3_exploreParts_27 rfl ?_
    refine Rq_iadd dX3_exploreParts_28 ?_
    refine Rq_icmp_ge_t 98 dX3_exploreParts_29 (by decide) (by rw [nI_add]; exact nI_le (Nat.le_refl _) (by omega)) ?_
    refine Rq_iload dX3_exploreParts_98 rfl ?_
    refine Rq_iret dX3_exploreParts_100 rfl ?_
    exact ⟨rfl, F0, f', g, hf'⟩
  | succ k ih =>
    intro i h f' a hi ha g hf' F0
    obtain ⟨nr, nz, nd, nn, h1, h2⟩ := GI.cell g
    have hil : i < l.length := by omega
    have el : l.take (i + 1) = l.take i ++ [f' (16 * L + i)] := by
      rw [List.take_add_one]
      congr 1
      have : l[i]? = some (f (16 * L + i)) := by rw [← hl]; exact rw_get hil
      rw [this, hf' _ (by omega)]
      rfl
    have ea : (l.take (i + 1)).foldl (exPs F l) a0 = exPs F l a (f' (16 * L + i)) := by rw [el, List.foldl_append, ← ha]; rfl
    have hl' : rw f' (16 * L) l.length = l := by
      rw [← hl, rw_len]
      exact rw_cong (fun j hj => hf' _ (by omega))
    have lm : (exPs F l a (f' (16 * L + i))).2.2.1.length ≤ 1024 := by
      have h3 : l.foldl (exPs F l) a0 = (l.drop (i + 1)).foldl (exPs F l) (exPs F l a (f' (16 * L + i))) := by
        rw [← ea, ← List.foldl_append, List.take_append_drop]
      have h4 := exPf_mono hM l (l.drop (i + 1)) (exPs F l a (f' (16 * L + i)))
      rw [← h3] at h4
      omega
    by_cases c : fVars (f' (16 * L + i)) &&& a.2.1 = 0
    · have es : exPs F l a (f' (16 * L + i)) = (maxI a.1 (F (tpC (cvr fVars l 10 (fVars (f' (16 * L + i)))) l) a.2.2).1, a.2.1 ||| cvr fVars l 10 (fVars (f' (16 * L + i))), (F (tpC (cvr fVars l 10 (fVars (f' (16 * L + i)))) l) a.2.2).2) := by unfold exPs; rw [if_pos c]
      rw [es] at lm
      have sc := sp_conn (d + 3) (b := 16 * L) (n := l.length) (f' (16 * L + i)) h1 h2 (by omega)
      rw [hl'] at sc
      have rk := kk (f' (16 * L + i)) (List.mem_of_getElem? (i := i) (by rw [← hl']; exact rw_get hil))
      generalize cvr fVars l 10 (fVars (f' (16 * L + i))) = part at es sc lm rk
      have stp := sp_takePart (d + 3) (L := L) (n := l.length) (t := part) h1 h2 hL hn
      rw [hl'] at stp
      refine Rq_iload dX3_exploreParts_24 rfl ?_
      refine Rq_iload_n dX3_exploreParts_26 rfl ?_
      refine Rq_iload_n dX3_exploreParts_27 rfl ?_
      refine Rq_iadd dX3_exploreParts_28 ?_
      refine Rq_icmp_ge_f 98 dX3_exploreParts_29 (by decide) (by rw [nI_add]; exact nI_ge (by omega) (by omega)) ?_
      refine Rq_aload_n dX3_exploreParts_32 rfl ?_
      refine Rq_get dX3_exploreParts_33 flX3_11 h1 rfl ?_
      refine Rq_iload dX3_exploreParts_36 rfl ?_
      refine Rq_iald (16 * L + i) dX3_exploreParts_38 h2 (by omega) (by decide) rfl ?_
      refine Rq_callS [_] dX3_exploreParts_39 clX3_86 (sp_varsOf (d + 4) h _) rfl rfl rfl ?_
      refine Rq_iload dX3_exploreParts_42 rfl ?_
      refine Rq_iand dX3_exploreParts_44 ?_
      refine Rq_if_ne_f 92 dX3_exploreParts_45 (by decide) c ?_
      refine Rq_aload_n dX3_exploreParts_48 rfl ?_
      refine Rq_aload_n dX3_exploreParts_49 rfl ?_
      refine Rq_get dX3_exploreParts_50 flX3_11 h1 rfl ?_
      refine Rq_iload dX3_exploreParts_53 rfl ?_
      refine Rq_iald (16 * L + i) dX3_exploreParts_55 h2 (by omega) (by decide) rfl ?_
      refine Rq_iload_n dX3_exploreParts_56 rfl ?_
      refine Rq_iload_n dX3_exploreParts_57 rfl ?_
      refine Rq_callV [_, _, _] dX3_exploreParts_58 clX3_89 rfl h1 sc rfl rfl rfl ?_
      refine Rq_istore [_, _, _, _, _, _, _, _] dX3_exploreParts_61 rfl rfl rfl ?_
      refine Rq_iload dX3_exploreParts_63 rfl ?_
      refine Rq_iload dX3_exploreParts_65 rfl ?_
      refine Rq_ior dX3_exploreParts_67 ?_
      refine Rq_istore [_, _, _, _, _, _, _, _] dX3_exploreParts_68 rfl rfl rfl ?_
      refine Rq_iload dX3_exploreParts_70 rfl ?_
      refine Rq_aload_n dX3_exploreParts_72 rfl ?_
      refine Rq_iload_n dX3_exploreParts_73 rfl ?_
      refine Rq_iconst (1) dX3_exploreParts_74 (by decide) ?_
      refine Rq_iadd dX3_exploreParts_75 ?_
      rw [nI_1]
      refine Rq_aload_n dX3_exploreParts_76 rfl ?_
      refine Rq_iload_n dX3_exploreParts_77 rfl ?_
      refine Rq_iload_n dX3_exploreParts_78 rfl ?_
      refine Rq_iload dX3_exploreParts_79 rfl ?_
      refine Rq_callVq [_, _, _] dX3_exploreParts_81 clX3_126 rfl h1 stp rfl rfl rfl (fun rv h3 hq => ?_)
      obtain ⟨rfl, f3, rfl, q1, q2⟩ := hq
      obtain ⟨g3, F3⟩ := GI.rows (f' := f3) g
      obtain ⟨nr3, nz3, nd3, nn3, j1, j2⟩ := GI.cell g3
      have ex1 := hF (tpC part l) a.2.2 _ f3 rs rd rk g3 q1 (by have := tpC_len part l; omega) lm
      refine Rq_callVq [_, _] dX3_exploreParts_84 clX3_72 rfl j1 ex1 rfl rfl rfl (fun rv h4 hq => ?_)
      obtain ⟨rfl, F4, f4, g4, q4⟩ := hq
      refine Rq_mmax dX3_exploreParts_87 clX3_121 mmax_1 mi_1 mmax_2 rfl ?_
      refine Rq_istore [_, _, _, _, _, _, _, _] dX3_exploreParts_90 rfl rfl rfl ?_
      refine Rq_iinc [_, _, _, _, _, _, _, _] (1) dX3_exploreParts_92 rfl (by decide) rfl rfl rfl ?_
      refine Rq_goto 24 dX3_exploreParts_95 (by decide) ?_
      rw [nI_1]
      refine Rq_dead [_, _, _, _, _, _, _, .retAddr 0] ⟨Or.inr rfl, Or.inr rfl, Or.inr rfl, Or.inr rfl, Or.inr rfl, Or.inr rfl, Or.inr rfl, Or.inl rfl, trivial⟩ ?_
      have nx := ih (i + 1) h4 f4 (maxI a.1 (F (tpC part l) a.2.2).1, a.2.1 ||| part, (F (tpC part l) a.2.2).2) (by omega) (by rw [ea, es]) g4 (fun k hk => by rw [q4 k (by omega), q2 k (by omega), hf' k hk]) ((F0.trans F3).trans F4)
      exact nx
    · have es : exPs F l a (f' (16 * L + i)) = a := by unfold exPs; rw [if_neg c]
      refine Rq_iload dX3_exploreParts_24 rfl ?_
      refine Rq_iload_n dX3_exploreParts_26 rfl ?_
      refine Rq_iload_n dX3_exploreParts_27 rfl ?_
      refine Rq_iadd dX3_exploreParts_28 ?_
      refine Rq_icmp_ge_f 98 dX3_exploreParts_29 (by decide) (by rw [nI_add]; exact nI_ge (by omega) (by omega)) ?_
      refine Rq_aload_n dX3_exploreParts_32 rfl ?_
      refine Rq_get dX3_exploreParts_33 flX3_11 h1 rfl ?_
      refine Rq_iload dX3_exploreParts_36 rfl ?_
      refine Rq_iald (16 * L + i) dX3_exploreParts_38 h2 (by omega) (by decide) rfl ?_
      refine Rq_callS [_] dX3_exploreParts_39 clX3_86 (sp_varsOf (d + 4) h _) rfl rfl rfl ?_
      refine Rq_iload dX3_exploreParts_42 rfl ?_
      refine Rq_iand dX3_exploreParts_44 ?_
      refine Rq_if_ne_t 92 dX3_exploreParts_45 (by decide) c ?_
      refine Rq_iinc [_, _, _, _, _, _, _, _] (1) dX3_exploreParts_92 rfl (by decide) rfl rfl rfl ?_
      refine Rq_goto 24 dX3_exploreParts_95 (by decide) ?_
      rw [nI_1]
      exact ih (i + 1) h f' a (by omega) (by rw [ea, es]) g hf' F0
theorem sp_exP {d L n : Nat} {F : List Int32 → Es → Int32 × Es} (hF : exOK (d + 4) (L + 1) n F) (hM : Mono F) (hL : L + 1 < 11) (l : List Int32) (s : Es) (h : Hp) (f : Nat → Int32) (rs rd : Int32) (g : GIs h f rs rd s) (hl : rw f (16 * L) l.length = l) (hn : l.length ≤ 16) (hT : (exP F l s).2.2.1.length ≤ 1024) (kk : ∀ c ∈ l, Rk n (tpC (cvr fVars l 10 (fVars c)) l)) :
    Mq mX3_exploreParts (d + 5) [.ref 25, .int (nI L), .int (nI l.length)] h (exPost h f L rs rd (exP F l s).1 (exP F l s).2.2) := by
  obtain ⟨nr, nz, nd, nn, h1, h2⟩ := GI.cell g
  obtain ⟨g', F0⟩ := GI.nums (rs' := rs) (rd' := rd) (dt' := s.2.1) (at'' := s.2.2.1 + 1) (ht' := s.2.2.2.1) (hf' := s.2.2.2.2) g h1
  refine Mq_of [_, _, _, _, _, _, _, _] (by decide +kernel) rfl rfl ?_
  refine Rq_aload_n dX3_exploreParts_0 rfl ?_
  refine Rq_dup dX3_exploreParts_1 rfl ?_
  refine Rq_get dX3_exploreParts_2 flX3_43 h1 rfl ?_
  refine Rq_iconst (1) dX3_exploreParts_5 (by decide) ?_
  refine Rq_iadd dX3_exploreParts_6 ?_
  refine Rq_put [_, _, _, _, _, _, _, _, _, _, _, _, _] dX3_exploreParts_7 fpX3_43 h1 rfl (okv_i _) rfl ?_
  refine Rq_iload_n dX3_exploreParts_10 rfl ?_
  refine Rq_bipush (16) dX3_exploreParts_11 (by decide) ?_
  refine Rq_imul dX3_exploreParts_13 ?_
  refine Rq_istore_n [_, _, _, _, _, _, _, _] dX3_exploreParts_14 rfl rfl rfl ?_
  refine Rq_iconst (0) dX3_exploreParts_15 (by decide) ?_
  refine Rq_istore [_, _, _, _, _, _, _, _] dX3_exploreParts_16 rfl rfl rfl ?_
  refine Rq_iconst (0) dX3_exploreParts_18 (by decide) ?_
  refine Rq_istore [_, _, _, _, _, _, _, _] dX3_exploreParts_19 rfl rfl rfl ?_
  refine Rq_iload_n dX3_exploreParts_21 rfl ?_
  refine Rq_istore [_, _, _, _, _, _, _, _] dX3_exploreParts_22 rfl rfl rfl ?_
  rw [show (16 : Int32) = nI 16 from rfl, pk_mul, Nat.mul_comm L 16]
  exact exP_loop hF hM hL l f h rs rd (0, 0, (s.1, s.2.1, s.2.2.1 + 1, s.2.2.2)) hl hn hT kk l.length 0 _ f (0, 0, (s.1, s.2.1, s.2.2.1 + 1, s.2.2.2)) (by omega) rfl g' (fun _ _ => rfl) F0
theorem sp_explore (d : Nat) : ∀ (n L : Nat), L + n = 11 → exOK (d + 2 * n + 4) L n (exC n) := by
  intro n
  induction n with
  | zero =>
    intro L hL l s h f rs rd rk g hl hn hT
    cases rk
  | succ n ih =>
    intro L hL l s h f rs rd rk g hl hn hT
    obtain ⟨nr, nz, nd, nn, h1, h2⟩ := GI.cell g
    have ihL := ih (L + 1) (by omega)
    unfold exC at hT ⊢
    refine Mq_of [_, _, _, _, _, _, _, _, _] (by decide +kernel) rfl rfl ?_
    by_cases c0 : l.length = 0
    · rw [if_pos c0]
      rw [c0]
      refine Rq_iload_n dX3_explore_0 rfl ?_
      refine Rq_if_lt_f 16 dX3_explore_1 (by decide) (nI_pos (by omega)) ?_
      refine Rq_iload_n dX3_explore_4 rfl ?_
      refine Rq_bipush (11) dX3_explore_5 (by decide) ?_
      refine Rq_icmp_ge_f 16 dX3_explore_7 (by decide) (nI_ge (b := 11) (by omega) (by decide)) ?_
      refine Rq_iload_n dX3_explore_10 rfl ?_
      refine Rq_bipush (16) dX3_explore_11 (by decide) ?_
      refine Rq_icmp_le_t 18 dX3_explore_13 (by decide) (nI_le (b := 16) (by omega) (by decide)) ?_
      refine Rq_iload_n dX3_explore_18 rfl ?_
      refine Rq_if_gt_f 29 dX3_explore_19 (by decide) (by decide) ?_
      refine Rq_aload_n dX3_explore_22 rfl ?_
      refine Rq_iconst (1) dX3_explore_23 (by decide) ?_
      refine Rq_put [_, _, _, _, _, _, _, _, _, _, _, _, _] dX3_explore_24 fpX3_46 h1 rfl okv_1 rfl ?_
      refine Rq_iconst (0) dX3_explore_27 (by decide) ?_
      refine Rq_iret dX3_explore_28 rfl ?_
      obtain ⟨g', F0⟩ := GI.nums (rs' := rs) (rd' := rd) (dt' := s.2.1) (at'' := s.2.2.1) (ht' := 1) (hf' := s.2.2.2.2) g h1
      exact ⟨rfl, F0, f, g', fun _ _ => rfl⟩
    · rw [if_neg c0] at hT ⊢
      have e0 : l.getD 0 0 = f (16 * L) := by
        rw [← hl, rw_getD (by omega)]; rfl
      simp only [Rk, e0] at rk
      rw [e0] at hT ⊢
      by_cases c1 : f (16 * L) = 0
      · rw [if_pos c1]
        refine Rq_iload_n dX3_explore_0 rfl ?_
        refine Rq_if_lt_f 16 dX3_explore_1 (by decide) (nI_pos (by omega)) ?_
        refine Rq_iload_n dX3_explore_4 rfl ?_
        refine Rq_bipush (11) dX3_explore_5 (by decide) ?_
        refine Rq_icmp_ge_f 16 dX3_explore_7 (by decide) (nI_ge (b := 11) (by omega) (by decide)) ?_
        refine Rq_iload_n dX3_explore_10 rfl ?_
        refine Rq_bipush (16) dX3_explore_11 (by decide) ?_
        refine Rq_icmp_le_t 18 dX3_explore_13 (by decide) (nI_le (b := 16) (by omega) (by decide)) ?_
        refine Rq_iload_n dX3_explore_18 rfl ?_
        refine Rq_if_gt_t 29 dX3_explore_19 (by decide) (nI_lt (a := 0) (by omega) (by omega)) ?_
        refine Rq_iload_n dX3_explore_29 rfl ?_
        refine Rq_bipush (16) dX3_explore_30 (by decide) ?_
        refine Rq_imul dX3_explore_32 ?_
        rw [show (16 : Int32) = nI 16 from rfl, pk_mul, Nat.mul_comm L 16]
        refine Rq_istore_n [_, _, _, _, _, _, _, _, _] dX3_explore_33 rfl rfl rfl ?_
        refine Rq_aload_n dX3_explore_34 rfl ?_
        refine Rq_get dX3_explore_35 flX3_11 h1 rfl ?_
        refine Rq_iload_n dX3_explore_38 rfl ?_
        refine Rq_iald (16 * L) dX3_explore_39 h2 (by omega) (by decide) rfl ?_
        refine Rq_if_ne_f 50 dX3_explore_40 (by decide) c1 ?_
        refine Rq_aload_n dX3_explore_43 rfl ?_
        refine Rq_iconst (1) dX3_explore_44 (by decide) ?_
        refine Rq_put [_, _, _, _, _, _, _, _, _, _, _, _, _] dX3_explore_45 fpX3_50 h1 rfl okv_1 rfl ?_
        refine Rq_iconst (0) dX3_explore_48 (by decide) ?_
        refine Rq_iret dX3_explore_49 rfl ?_
        obtain ⟨g', F0⟩ := GI.nums (rs' := rs) (rd' := rd) (dt' := s.2.1) (at'' := s.2.2.1) (ht' := s.2.2.2.1) (hf' := 1) g h1
        exact ⟨rfl, F0, f, g', fun _ _ => rfl⟩
      · rw [if_neg c1] at hT ⊢
        have gx := g
        obtain ⟨nr', nz', nd', nn', cap, heads, x1, x2, x3, hh, gt, hc, ho, hne, lb⟩ := gx
        have hcl := hc.le
        have sb := sp_bkt (d + 2 * (n + 1) + 3) (b := 16 * L) (n := l.length) h1 h2 (by omega)
        have sf := sp_find (d + 2 * (n + 1) + 2) (b := 16 * L) (n := l.length) x1 x2 x3 hh gt (by omega) hn (by omega)
        rw [hl] at sb sf
        have gtl : s.1.length ≤ 1024 := by obtain ⟨_, _, _, _, _, _, _, _, g5, _⟩ := gt; omega
        rcases fnd_ok (T := s.1) (l := l) s.1.length gtl with ⟨e1, e2⟩ | ⟨j, e0', e1, e2⟩
        · rw [e2] at hT ⊢
          rw [e1] at sf
          simp only at hT ⊢
          have sc := sp_conn (d + 2 * (n + 1) + 2) (b := 16 * L) (n := l.length) (f (16 * L)) h1 h2 (by omega)
          have sv := sp_varsIn (d + 2 * (n + 1) + 2) (b := 16 * L) (n := l.length) h1 h2 (by omega)
          rw [hl] at sc sv
          refine Rq_iload_n dX3_explore_0 rfl ?_
          refine Rq_if_lt_f 16 dX3_explore_1 (by decide) (nI_pos (by omega)) ?_
          refine Rq_iload_n dX3_explore_4 rfl ?_
          refine Rq_bipush (11) dX3_explore_5 (by decide) ?_
          refine Rq_icmp_ge_f 16 dX3_explore_7 (by decide) (nI_ge (b := 11) (by omega) (by decide)) ?_
          refine Rq_iload_n dX3_explore_10 rfl ?_
          refine Rq_bipush (16) dX3_explore_11 (by decide) ?_
          refine Rq_icmp_le_t 18 dX3_explore_13 (by decide) (nI_le (b := 16) (by omega) (by decide)) ?_
          refine Rq_iload_n dX3_explore_18 rfl ?_
          refine Rq_if_gt_t 29 dX3_explore_19 (by decide) (nI_lt (a := 0) (by omega) (by omega)) ?_
          refine Rq_iload_n dX3_explore_29 rfl ?_
          refine Rq_bipush (16) dX3_explore_30 (by decide) ?_
          refine Rq_imul dX3_explore_32 ?_
          rw [show (16 : Int32) = nI 16 from rfl, pk_mul, Nat.mul_comm L 16]
          by_cases c2 : cvr fVars l 10 (fVars (f (16 * L))) = fVars (orL l)
          · rw [if_pos c2] at hT ⊢
            rw [List.length_append, List.length_singleton] at hT
            have rk2 := (rk.resolve_left c0).resolve_left c1
            rw [if_pos c2] at rk2
            have hL2 : L + 1 < 11 := by
              cases n with
              | zero => cases rk2.1
              | succ n => omega
            have sd := sp_exD (d := d + 2 * n) (L := L) ihL (exC_mono n) hL2 l s h f rs rd g hl hn (by omega) rk2.1 rk2.2
            refine Rq_istore_n [_, _, _, _, _, _, _, _, _] dX3_explore_33 rfl rfl rfl ?_
            refine Rq_aload_n dX3_explore_34 rfl ?_
            refine Rq_get dX3_explore_35 flX3_11 h1 rfl ?_
            refine Rq_iload_n dX3_explore_38 rfl ?_
            refine Rq_iald (16 * L) dX3_explore_39 h2 (by omega) (by decide) rfl ?_
            refine Rq_if_ne_t 50 dX3_explore_40 (by decide) c1 ?_
            refine Rq_aload_n dX3_explore_50 rfl ?_
            refine Rq_iload_n dX3_explore_51 rfl ?_
            refine Rq_iload_n dX3_explore_52 rfl ?_
            refine Rq_callV [_, _] dX3_explore_53 clX3_93 rfl h1 sb rfl rfl rfl ?_
            refine Rq_istore [_, _, _, _, _, _, _, _, _] dX3_explore_56 rfl rfl rfl ?_
            refine Rq_aload_n dX3_explore_58 rfl ?_
            refine Rq_iload dX3_explore_59 rfl ?_
            refine Rq_iload_n dX3_explore_61 rfl ?_
            refine Rq_iload_n dX3_explore_62 rfl ?_
            refine Rq_callV [_, _, _] dX3_explore_63 clX3_96 rfl h1 sf rfl rfl rfl ?_
            refine Rq_istore [_, _, _, _, _, _, _, _, _] dX3_explore_66 rfl rfl rfl ?_
            refine Rq_iload dX3_explore_68 rfl ?_
            refine Rq_iconst (-1) dX3_explore_70 (by decide) ?_
            refine Rq_icmp_eq_t 82 dX3_explore_71 (by decide) rfl ?_
            refine Rq_aload_n dX3_explore_82 rfl ?_
            refine Rq_aload_n dX3_explore_83 rfl ?_
            refine Rq_get dX3_explore_84 flX3_11 h1 rfl ?_
            refine Rq_iload_n dX3_explore_87 rfl ?_
            refine Rq_iald (16 * L) dX3_explore_88 h2 (by omega) (by decide) rfl ?_
            refine Rq_iload_n dX3_explore_89 rfl ?_
            refine Rq_iload_n dX3_explore_90 rfl ?_
            refine Rq_callV [_, _, _] dX3_explore_91 clX3_89 rfl h1 sc rfl rfl rfl ?_
            refine Rq_istore [_, _, _, _, _, _, _, _, _] dX3_explore_94 rfl rfl rfl ?_
            refine Rq_iload dX3_explore_96 rfl ?_
            refine Rq_aload_n dX3_explore_98 rfl ?_
            refine Rq_iload_n dX3_explore_99 rfl ?_
            refine Rq_iload_n dX3_explore_100 rfl ?_
            refine Rq_callV [_, _] dX3_explore_101 clX3_99 rfl h1 sv rfl rfl rfl ?_
            refine Rq_icmp_ne_f 111 dX3_explore_104 (by decide) c2 ?_
            refine Rq_iconst (1) dX3_explore_107 (by decide) ?_
            refine Rq_goto 112 dX3_explore_108 (by decide) ?_
            refine Rq_istore [_, _, _, _, _, _, _, _, _] dX3_explore_112 rfl rfl rfl ?_
            refine Rq_iload dX3_explore_114 rfl ?_
            refine Rq_if_eq_f 128 dX3_explore_116 (by decide) (by decide) ?_
            refine Rq_aload_n dX3_explore_119 rfl ?_
            refine Rq_iload_n dX3_explore_120 rfl ?_
            refine Rq_iload_n dX3_explore_121 rfl ?_
            refine Rq_callVq [_, _] dX3_explore_122 clX3_102 rfl h1 sd rfl rfl rfl (fun rv h3 hq => ?_)
            obtain ⟨rfl, F3, f3, g3, q3⟩ := hq
            obtain ⟨nr3, nz3, nd3, nn3, j1, j2⟩ := GI.cell g3
            have hl3 : rw f3 (16 * L) l.length = l := by
              rw [← hl, rw_len]
              exact rw_cong (fun j hj => q3 _ (by omega))
            have sa := sp_addNode (d + 2 * (n + 1)) (b := 16 * L) (n := l.length) (dep := (exD (exC n) l s).1 + 1) g3 (by omega) hn (by omega)
            rw [hl3] at sa
            refine Rq_goto 134 dX3_explore_125 (by decide) ?_
            refine Rq_istore [_, _, _, _, _, _, _, _, _] dX3_explore_134 rfl rfl rfl ?_
            refine Rq_aload_n dX3_explore_136 rfl ?_
            refine Rq_iload dX3_explore_137 rfl ?_
            refine Rq_iload_n dX3_explore_139 rfl ?_
            refine Rq_iload_n dX3_explore_140 rfl ?_
            refine Rq_iload dX3_explore_141 rfl ?_
            refine Rq_iconst (1) dX3_explore_143 (by decide) ?_
            refine Rq_iadd dX3_explore_144 ?_
            refine Rq_callVq [_, _, _, _] dX3_explore_145 clX3_108 rfl j1 sa rfl rfl rfl (fun rv h4 hq => ?_)
            obtain ⟨rfl, F4, g4⟩ := hq
            refine Rq_iload dX3_explore_148 rfl ?_
            refine Rq_iconst (1) dX3_explore_150 (by decide) ?_
            refine Rq_iadd dX3_explore_151 ?_
            refine Rq_iret dX3_explore_152 rfl ?_
            exact ⟨rfl, F3.trans F4, f3, g4, q3⟩
          · rw [if_neg c2] at hT ⊢
            rw [List.length_append, List.length_singleton] at hT
            have rk2 := (rk.resolve_left c0).resolve_left c1
            rw [if_neg c2] at rk2
            have hL2 : L + 1 < 11 := by
              cases n with
              | zero => cases (rk2 (f (16 * L)) (List.mem_of_getElem? (i := 0) (by rw [← hl]; exact rw_get (by omega))))
              | succ n => omega
            have sd := sp_exP (d := d + 2 * n) (L := L) ihL (exC_mono n) hL2 l s h f rs rd g hl hn (by omega) rk2
            refine Rq_istore_n [_, _, _, _, _, _, _, _, _] dX3_explore_33 rfl rfl rfl ?_
            refine Rq_aload_n dX3_explore_34 rfl ?_
            refine Rq_get dX3_explore_35 flX3_11 h1 rfl ?_
            refine Rq_iload_n dX3_explore_38 rfl ?_
            refine Rq_iald (16 * L) dX3_explore_39 h2 (by omega) (by decide) rfl ?_
            refine Rq_if_ne_t 50 dX3_explore_40 (by decide) c1 ?_
            refine Rq_aload_n dX3_explore_50 rfl ?_
            refine Rq_iload_n dX3_explore_51 rfl ?_
            refine Rq_iload_n dX3_explore_52 rfl ?_
            refine Rq_callV [_, _] dX3_explore_53 clX3_93 rfl h1 sb rfl rfl rfl ?_
            refine Rq_istore [_, _, _, _, _, _, _, _, _] dX3_explore_56 rfl rfl rfl ?_
            refine Rq_aload_n dX3_explore_58 rfl ?_
            refine Rq_iload dX3_explore_59 rfl ?_
            refine Rq_iload_n dX3_explore_61 rfl ?_
            refine Rq_iload_n dX3_explore_62 rfl ?_
            refine Rq_callV [_, _, _] dX3_explore_63 clX3_96 rfl h1 sf rfl rfl rfl ?_
            refine Rq_istore [_, _, _, _, _, _, _, _, _] dX3_explore_66 rfl rfl rfl ?_
            refine Rq_iload dX3_explore_68 rfl ?_
            refine Rq_iconst (-1) dX3_explore_70 (by decide) ?_
            refine Rq_icmp_eq_t 82 dX3_explore_71 (by decide) rfl ?_
            refine Rq_aload_n dX3_explore_82 rfl ?_
            refine Rq_aload_n dX3_explore_83 rfl ?_
            refine Rq_get dX3_explore_84 flX3_11 h1 rfl ?_
            refine Rq_iload_n dX3_explore_87 rfl ?_
            refine Rq_iald (16 * L) dX3_explore_88 h2 (by omega) (by decide) rfl ?_
            refine Rq_iload_n dX3_explore_89 rfl ?_
            refine Rq_iload_n dX3_explore_90 rfl ?_
            refine Rq_callV [_, _, _] dX3_explore_91 clX3_89 rfl h1 sc rfl rfl rfl ?_
            refine Rq_istore [_, _, _, _, _, _, _, _, _] dX3_explore_94 rfl rfl rfl ?_
            refine Rq_iload dX3_explore_96 rfl ?_
            refine Rq_aload_n dX3_explore_98 rfl ?_
            refine Rq_iload_n dX3_explore_99 rfl ?_
            refine Rq_iload_n dX3_explore_100 rfl ?_
            refine Rq_callV [_, _] dX3_explore_101 clX3_99 rfl h1 sv rfl rfl rfl ?_
            refine Rq_icmp_ne_t 111 dX3_explore_104 (by decide) c2 ?_
            refine Rq_iconst (0) dX3_explore_111 (by decide) ?_
            refine Rq_istore [_, _, _, _, _, _, _, _, _] dX3_explore_112 rfl rfl rfl ?_
            refine Rq_iload dX3_explore_114 rfl ?_
            refine Rq_if_eq_t 128 dX3_explore_116 (by decide) rfl ?_
            refine Rq_aload_n dX3_explore_128 rfl ?_
            refine Rq_iload_n dX3_explore_129 rfl ?_
            refine Rq_iload_n dX3_explore_130 rfl ?_
            refine Rq_callVq [_, _] dX3_explore_131 clX3_105 rfl h1 sd rfl rfl rfl (fun rv h3 hq => ?_)
            obtain ⟨rfl, F3, f3, g3, q3⟩ := hq
            obtain ⟨nr3, nz3, nd3, nn3, j1, j2⟩ := GI.cell g3
            have hl3 : rw f3 (16 * L) l.length = l := by
              rw [← hl, rw_len]
              exact rw_cong (fun j hj => q3 _ (by omega))
            have sa := sp_addNode (d + 2 * (n + 1)) (b := 16 * L) (n := l.length) (dep := (exP (exC n) l s).1 + 1) g3 (by omega) hn (by omega)
            rw [hl3] at sa
            refine Rq_istore [_, _, _, _, _, _, _, _, _] dX3_explore_134 rfl rfl rfl ?_
            refine Rq_aload_n dX3_explore_136 rfl ?_
            refine Rq_iload dX3_explore_137 rfl ?_
            refine Rq_iload_n dX3_explore_139 rfl ?_
            refine Rq_iload_n dX3_explore_140 rfl ?_
            refine Rq_iload dX3_explore_141 rfl ?_
            refine Rq_iconst (1) dX3_explore_143 (by decide) ?_
            refine Rq_iadd dX3_explore_144 ?_
            refine Rq_callVq [_, _, _, _] dX3_explore_145 clX3_108 rfl j1 sa rfl rfl rfl (fun rv h4 hq => ?_)
            obtain ⟨rfl, F4, g4⟩ := hq
            refine Rq_iload dX3_explore_148 rfl ?_
            refine Rq_iconst (1) dX3_explore_150 (by decide) ?_
            refine Rq_iadd dX3_explore_151 ?_
            refine Rq_iret dX3_explore_152 rfl ?_
            exact ⟨rfl, F3.trans F4, f3, g4, q3⟩
        · rw [e2]
          rw [e1] at sf
          obtain ⟨NR, NZ, ND, NN, g1, g2, g3, g4, g5, g6⟩ := gt
          obtain ⟨z1, z2, z3, z4, z5⟩ := g6 j e0'
          have ne : ¬ nI j = -1 := fun z => by
            have := congrArg Int32.toInt z
            rw [nI_toInt (by omega)] at this
            have h2 : (-1 : Int32).toInt = -1 := by decide
            omega
          refine Rq_iload_n dX3_explore_0 rfl ?_
          refine Rq_if_lt_f 16 dX3_explore_1 (by decide) (nI_pos (by omega)) ?_
          refine Rq_iload_n dX3_explore_4 rfl ?_
          refine Rq_bipush (11) dX3_explore_5 (by decide) ?_
          refine Rq_icmp_ge_f 16 dX3_explore_7 (by decide) (nI_ge (b := 11) (by omega) (by decide)) ?_
          refine Rq_iload_n dX3_explore_10 rfl ?_
          refine Rq_bipush (16) dX3_explore_11 (by decide) ?_
          refine Rq_icmp_le_t 18 dX3_explore_13 (by decide) (nI_le (b := 16) (by omega) (by decide)) ?_
          refine Rq_iload_n dX3_explore_18 rfl ?_
          refine Rq_if_gt_t 29 dX3_explore_19 (by decide) (nI_lt (a := 0) (by omega) (by omega)) ?_
          refine Rq_iload_n dX3_explore_29 rfl ?_
          refine Rq_bipush (16) dX3_explore_30 (by decide) ?_
          refine Rq_imul dX3_explore_32 ?_
          rw [show (16 : Int32) = nI 16 from rfl, pk_mul, Nat.mul_comm L 16]
          refine Rq_istore_n [_, _, _, _, _, _, _, _, _] dX3_explore_33 rfl rfl rfl ?_
          refine Rq_aload_n dX3_explore_34 rfl ?_
          refine Rq_get dX3_explore_35 flX3_11 h1 rfl ?_
          refine Rq_iload_n dX3_explore_38 rfl ?_
          refine Rq_iald (16 * L) dX3_explore_39 h2 (by omega) (by decide) rfl ?_
          refine Rq_if_ne_t 50 dX3_explore_40 (by decide) c1 ?_
          refine Rq_aload_n dX3_explore_50 rfl ?_
          refine Rq_iload_n dX3_explore_51 rfl ?_
          refine Rq_iload_n dX3_explore_52 rfl ?_
          refine Rq_callV [_, _] dX3_explore_53 clX3_93 rfl h1 sb rfl rfl rfl ?_
          refine Rq_istore [_, _, _, _, _, _, _, _, _] dX3_explore_56 rfl rfl rfl ?_
          refine Rq_aload_n dX3_explore_58 rfl ?_
          refine Rq_iload dX3_explore_59 rfl ?_
          refine Rq_iload_n dX3_explore_61 rfl ?_
          refine Rq_iload_n dX3_explore_62 rfl ?_
          refine Rq_callV [_, _, _] dX3_explore_63 clX3_96 rfl h1 sf rfl rfl rfl ?_
          refine Rq_istore [_, _, _, _, _, _, _, _, _] dX3_explore_66 rfl rfl rfl ?_
          refine Rq_iload dX3_explore_68 rfl ?_
          refine Rq_iconst (-1) dX3_explore_70 (by decide) ?_
          refine Rq_icmp_eq_f 82 dX3_explore_71 (by decide) ne ?_
          refine Rq_aload_n dX3_explore_74 rfl ?_
          refine Rq_get dX3_explore_75 flX3_24 x1 rfl ?_
          refine Rq_iload dX3_explore_78 rfl ?_
          refine Rq_iald j dX3_explore_80 g3 (by omega) (by omega) rfl ?_
          rw [z4]
          refine Rq_iret dX3_explore_81 rfl ?_
          exact ⟨rfl, FG.rf h, f, g, fun _ _ => rfl⟩
