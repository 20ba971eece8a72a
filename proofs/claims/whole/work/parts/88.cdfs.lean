/-! the class's search, in the reference's rows -/
noncomputable def cnD (N : List (List Int32)) : Nat := N.countP (fun m => @decide (conR m) (Classical.propDecidable _))
noncomputable def cnA (N : List (List Int32)) : Nat := N.countP (fun m => !@decide (conR m) (Classical.propDecidable _))
theorem cnD_app (N M : List (List Int32)) : cnD (N ++ M) = cnD N + cnD M := List.countP_append
theorem cnA_app (N M : List (List Int32)) : cnA (N ++ M) = cnA N + cnA M := List.countP_append
theorem cn_con {m : List Int32} (h : conR m) : cnD [m] = 1 ∧ cnA [m] = 0 := by
  unfold cnD cnA
  simp [h]
theorem cn_not {m : List Int32} (h : ¬ conR m) : cnD [m] = 0 ∧ cnA [m] = 1 := by
  unfold cnD cnA
  simp [h]
theorem cn_len : ∀ N : List (List Int32), cnD N + cnA N = N.length
  | [] => rfl
  | m :: N => by
    have ih := cn_len N
    rw [show m :: N = [m] ++ N from rfl, cnD_app, cnA_app, List.length_append, List.length_singleton]
    by_cases c : conR m
    · rw [(cn_con c).1, (cn_con c).2]; omega
    · rw [(cn_not c).1, (cn_not c).2]; omega
theorem maxI_nI {a b : Nat} (ha : a < 100) (hb : b < 100) : maxI (nI a) (nI b) = nI (max a b) := by
  unfold maxI
  by_cases c : a < b
  · rw [if_pos (nI_lt c (by omega)), Nat.max_eq_right (by omega)]
  · rw [if_neg (nI_nlt (by omega) (by omega)), Nat.max_eq_left (by omega)]
def TR (T : List Nd) (TT : List (List Int32)) : Prop := T.length = TT.length ∧ ∀ i, i < TT.length → Sm (T.getD i ([], 0)).1 (TT.getD i []) ∧ ∃ d, (T.getD i ([], 0)).2 = nI d ∧ d ≤ nvR (TT.getD i []) + 1 ∧ DpR (nvR (TT.getD i []) + 1) (TT.getD i []) d
theorem TR_app {T : List Nd} {TT : List (List Int32)} {l l' : List Int32} {d : Nat} (h : TR T TT) (hs : Sm l l') (hd : d ≤ nvR l' + 1) (hp : DpR (nvR l' + 1) l' d) : TR (T ++ [(l, nI d)]) (TT ++ [l']) := by
  refine ⟨by rw [List.length_append, List.length_append, h.1]; rfl, fun i hi => ?_⟩
  rw [List.length_append, List.length_singleton] at hi
  by_cases e : i = TT.length
  · have e' : i = T.length := e.trans h.1.symm
    rw [e, getD_last, show (T ++ [(l, nI d)]).getD TT.length ([], 0) = (l, nI d) by rw [← h.1]; exact getD_app_eq]
    exact ⟨hs, d, rfl, hd, hp⟩
  · rw [getD_app_lt (by rw [h.1]; omega), getD_app (by omega)]
    exact h.2 i (by omega)
def inC (s : Es) (TT : List (List Int32)) (m : List Int32) : Prop := (m = [] ∧ s.2.2.2.1 = 1) ∨ (m ≠ [] ∧ m.getD 0 0 = 0 ∧ s.2.2.2.2 = 1) ∨ (ntR m ∧ m ∈ TT)
theorem inC_mono {s s' : Es} {TT N : List (List Int32)} (h1 : s.2.2.2.1 = 1 → s'.2.2.2.1 = 1) (h2 : s.2.2.2.2 = 1 → s'.2.2.2.2 = 1) {m : List Int32} (x : inC s TT m) : inC s' (TT ++ N) m := by
  rcases x with ⟨a, b⟩ | ⟨a, b, c⟩ | ⟨a, b⟩
  · exact Or.inl ⟨a, h1 b⟩
  · exact Or.inr (Or.inl ⟨a, b, h2 c⟩)
  · exact Or.inr (Or.inr ⟨a, List.mem_append_left _ b⟩)
def GC (s : Es) (TT : List (List Int32)) : Prop := TR s.1 TT ∧ TT.Nodup ∧ ∀ m ∈ TT, VR m ∧ ntR m ∧ ∀ q, KdR m q → inC s TT q
theorem GC_fl {s s' : Es} {TT : List (List Int32)} (h : GC s TT) (e : s'.1 = s.1) (h1 : s.2.2.2.1 = 1 → s'.2.2.2.1 = 1) (h2 : s.2.2.2.2 = 1 → s'.2.2.2.2 = 1) : GC s' TT := by
  refine ⟨by rw [e]; exact h.1, h.2.1, fun m hm => ?_⟩
  obtain ⟨a, b, c⟩ := h.2.2 m hm
  refine ⟨a, b, fun q hq => ?_⟩
  have := inC_mono (N := []) h1 h2 (c q hq)
  rwa [List.append_nil] at this
def flC (l : List Int32) (s s' : Es) : Prop := (s'.2.2.2.1 = s.2.2.2.1 ∨ (s'.2.2.2.1 = 1 ∧ Rch ntR KdR l [])) ∧ (s'.2.2.2.2 = s.2.2.2.2 ∨ (s'.2.2.2.2 = 1 ∧ ∃ m, Rch ntR KdR l m ∧ m ≠ [] ∧ m.getD 0 0 = 0)) ∧ (s.2.2.2.1 = 1 → s'.2.2.2.1 = 1) ∧ (s.2.2.2.2 = 1 → s'.2.2.2.2 = 1)
theorem flC_rf {l : List Int32} {s s' : Es} (h1 : s'.2.2.2.1 = s.2.2.2.1) (h2 : s'.2.2.2.2 = s.2.2.2.2) : flC l s s' := ⟨Or.inl h1, Or.inl h2, fun z => h1.trans z, fun z => h2.trans z⟩
theorem flC_tr {l m : List Int32} {s s1 s2 : Es} (hm : Rch ntR KdR l m) (x : flC l s s1) (y : flC m s1 s2) : flC l s s2 := by
  obtain ⟨a1, a2, a3, a4⟩ := x
  obtain ⟨b1, b2, b3, b4⟩ := y
  refine ⟨?_, ?_, fun z => b3 (a3 z), fun z => b4 (a4 z)⟩
  · rcases b1 with b1 | ⟨b1, c⟩
    · rcases a1 with a1 | ⟨a1, c⟩
      · exact Or.inl (b1.trans a1)
      · exact Or.inr ⟨b1.trans a1, c⟩
    · exact Or.inr ⟨b1, hm.trans c⟩
  · rcases b2 with b2 | ⟨b2, q, c, c2⟩
    · rcases a2 with a2 | ⟨a2, c⟩
      · exact Or.inl (b2.trans a2)
      · exact Or.inr ⟨b2.trans a2, c⟩
    · exact Or.inr ⟨b2, q, hm.trans c, c2⟩
/-- what exploring a row does -/
def exSp (F : List Int32 → Es → Int32 × Es) (f : Nat) : Prop := ∀ (l l' : List Int32) (s : Es) (TT : List (List Int32)), nvR l' < f → Sm l l' → GC s TT →
  ∃ (N : List (List Int32)) (d : Nat), GC (F l s).2 (TT ++ N) ∧ (∀ m ∈ N, Rch ntR KdR l' m ∧ nvR m ≤ nvR l') ∧ (F l s).2.2.1 = s.2.1 + nI (cnD N) ∧ (F l s).2.2.2.1 = s.2.2.1 + nI (cnA N) ∧ flC l' s (F l s).2 ∧ inC (F l s).2 (TT ++ N) l' ∧ (F l s).1 = nI d ∧ d ≤ nvR l' + 1 ∧ DpR (nvR l' + 1) l' d
theorem kfold {F : List Int32 → Es → Int32 × Es} {f : Nat} (hF : exSp F f) {l' : List Int32} (hv : VR l') (hn : ntR l') (hf : nvR l' ≤ f) : ∀ (ps : List (List Int32 × List Int32)) (d0 : Nat) (s : Es) (TT : List (List Int32)), (∀ p ∈ ps, Sm p.1 p.2 ∧ KdR l' p.2) → GC s TT → d0 ≤ nvR l' →
    ∃ (N : List (List Int32)) (e : Nat), GC ((ps.map Prod.fst).foldl (stpG F) (nI d0, s)).2 (TT ++ N) ∧ (∀ m ∈ N, Rch ntR KdR l' m ∧ nvR m < nvR l') ∧ ((ps.map Prod.fst).foldl (stpG F) (nI d0, s)).2.2.1 = s.2.1 + nI (cnD N) ∧ ((ps.map Prod.fst).foldl (stpG F) (nI d0, s)).2.2.2.1 = s.2.2.1 + nI (cnA N) ∧ flC l' s ((ps.map Prod.fst).foldl (stpG F) (nI d0, s)).2 ∧ (∀ p ∈ ps, inC ((ps.map Prod.fst).foldl (stpG F) (nI d0, s)).2 (TT ++ N) p.2) ∧ ((ps.map Prod.fst).foldl (stpG F) (nI d0, s)).1 = nI e ∧ d0 ≤ e ∧ e ≤ nvR l' ∧ (∀ p ∈ ps, ∃ e', e' ≤ e ∧ DpR (nvR l') p.2 e') ∧ (e = d0 ∨ ∃ p ∈ ps, DpR (nvR l') p.2 e)
  | [], d0, s, TT, _, g, h => ⟨[], d0, by rw [List.append_nil]; exact g, (fun m hm => by cases hm), (by show s.2.1 = s.2.1 + 0; rw [Int32.add_zero]), (by show s.2.2.1 = s.2.2.1 + 0; rw [Int32.add_zero]), flC_rf rfl rfl, (fun p hp => by cases hp), rfl, Nat.le_refl _, h, (fun p hp => by cases hp), Or.inl rfl⟩
  | p :: ps, d0, s, TT, hp, g, h => by
    obtain ⟨p1, p2⟩ := hp p List.mem_cons_self
    have nv := (kd_nv hv hn p2).2
    have nv10 := nv_le l'
    obtain ⟨N1, d1, q1, q2, q3, q4, q5, q6, q7, q8, q9⟩ := hF p.1 p.2 s TT (by omega) p1 g
    have st : stpG F (nI d0, s) p.1 = (nI (max d0 d1), (F p.1 s).2) := by
      unfold stpG
      rw [q7, maxI_nI (by omega) (by omega)]
    obtain ⟨N2, e, r1, r2, r3, r4, r5, r6, r7, r8, r9, r10, r11⟩ := kfold hF hv hn hf ps (max d0 d1) (F p.1 s).2 (TT ++ N1) (fun q hq => hp q (List.mem_cons_of_mem _ hq)) q1 (by omega)
    have rc : Rch ntR KdR l' p.2 := Rch.rf.st hn p2
    rw [List.append_assoc] at r1 r6
    rw [List.map_cons, List.foldl_cons, st]
    have dp : DpR (nvR l') p.2 d1 := DpG.mono q9 (by omega)
    refine ⟨N1 ++ N2, e, r1, fun m hm => ?_, ?_, ?_, ?_, fun q hq => ?_, r7, by omega, r9, fun q hq => ?_, ?_⟩
    · rcases List.mem_append.mp hm with hm | hm
      · exact ⟨rc.trans (q2 m hm).1, by have := (q2 m hm).2; omega⟩
      · exact r2 m hm
    · rw [r3, q3, cnD_app, ← nI_add, Int32.add_assoc]
    · rw [r4, q4, cnA_app, ← nI_add, Int32.add_assoc]
    · have a := flC_tr rc (flC_rf (l := l') (s := s) (s' := s) rfl rfl) q5
      exact flC_tr Rch.rf a r5
    · rcases List.mem_cons.mp hq with rfl | hq
      · have := inC_mono (N := N2) r5.2.2.1 r5.2.2.2 q6
        rwa [List.append_assoc] at this
      · exact r6 q hq
    · rcases List.mem_cons.mp hq with rfl | hq
      · exact ⟨d1, by omega, dp⟩
      · exact r10 q hq
    · rcases r11 with r11 | ⟨q, a, b⟩
      · rcases Nat.le_total d1 d0 with c | c
        · exact Or.inl (by omega)
        · exact Or.inr ⟨p, List.mem_cons_self, by rw [r11, Nat.max_eq_right c]; exact dp⟩
      · exact Or.inr ⟨q, List.mem_cons_of_mem _ a, b⟩
/-- and the node itself behind its kids -/
theorem kfin {F : List Int32 → Es → Int32 × Es} {f : Nat} (hF : exSp F f) {l l' : List Int32} (hs : Sm l l') (hn : ntR l') (hf : nvR l' ≤ f) {s s0 : Es} {TT : List (List Int32)} (g : GC s TT) (hl : l' ∉ TT) (e1 : s0.1 = s.1) (e2 : s0.2.2.2 = s.2.2.2) (ps : List (List Int32 × List Int32)) (hp : ∀ p ∈ ps, Sm p.1 p.2 ∧ KdR l' p.2) (hk : ∀ m, KdR l' m → ∃ p ∈ ps, p.2 = m)
    (c1 : s0.2.1 = s.2.1 + nI (cnD [l'])) (c2 : s0.2.2.1 = s.2.2.1 + nI (cnA [l'])) :
    ∃ (N : List (List Int32)) (d : Nat), GC (((ps.map Prod.fst).foldl (stpG F) (0, s0)).2.1 ++ [(l, ((ps.map Prod.fst).foldl (stpG F) (0, s0)).1 + 1)], ((ps.map Prod.fst).foldl (stpG F) (0, s0)).2.2) (TT ++ N) ∧ (∀ m ∈ N, Rch ntR KdR l' m ∧ nvR m ≤ nvR l') ∧ ((ps.map Prod.fst).foldl (stpG F) (0, s0)).2.2.1 = s.2.1 + nI (cnD N) ∧ ((ps.map Prod.fst).foldl (stpG F) (0, s0)).2.2.2.1 = s.2.2.1 + nI (cnA N) ∧ flC l' s ((ps.map Prod.fst).foldl (stpG F) (0, s0)).2 ∧ inC ((ps.map Prod.fst).foldl (stpG F) (0, s0)).2 (TT ++ N) l' ∧ ((ps.map Prod.fst).foldl (stpG F) (0, s0)).1 + 1 = nI d ∧ d ≤ nvR l' + 1 ∧ DpR (nvR l' + 1) l' d := by
  have f1 : s0.2.2.2.1 = s.2.2.2.1 := by rw [e2]
  have f2 : s0.2.2.2.2 = s.2.2.2.2 := by rw [e2]
  have g0 : GC s0 TT := GC_fl g e1 (fun z => f1.trans z) (fun z => f2.trans z)
  obtain ⟨N, e, r1, r2, r3, r4, r5, r6, r7, r8, r9, r10, r11⟩ := kfold hF hs.2.1 hn hf ps 0 s0 TT hp g0 (Nat.zero_le _)
  replace r1 : GC ((ps.map Prod.fst).foldl (stpG F) (0, s0)).2 (TT ++ N) := r1
  replace r3 : ((ps.map Prod.fst).foldl (stpG F) (0, s0)).2.2.1 = s0.2.1 + nI (cnD N) := r3
  replace r4 : ((ps.map Prod.fst).foldl (stpG F) (0, s0)).2.2.2.1 = s0.2.2.1 + nI (cnA N) := r4
  replace r5 : flC l' s0 ((ps.map Prod.fst).foldl (stpG F) (0, s0)).2 := r5
  replace r6 : ∀ p ∈ ps, inC ((ps.map Prod.fst).foldl (stpG F) (0, s0)).2 (TT ++ N) p.2 := r6
  replace r7 : ((ps.map Prod.fst).foldl (stpG F) (0, s0)).1 = nI e := r7
  generalize (ps.map Prod.fst).foldl (stpG F) (0, s0) = q at r1 r3 r4 r5 r6 r7 ⊢
  have dp : DpR (nvR l' + 1) l' (e + 1) := by
    refine Or.inr ⟨hn, e, rfl, fun m hm => ?_, ?_⟩
    · obtain ⟨p, a, b⟩ := hk m hm
      obtain ⟨e', x, y⟩ := r10 p a
      rw [b] at y
      exact ⟨e', x, y⟩
    · rcases r11 with z | ⟨p, a, b⟩
      · exact Or.inl z
      · exact Or.inr ⟨p.2, (hp p a).2, b⟩
  have de : q.1 + 1 = nI (e + 1) := by rw [r7, nI_1]
  have nN : l' ∉ TT ++ N := fun z => by
    rcases List.mem_append.mp z with z | z
    · exact hl z
    · have := (r2 _ z).2
      omega
  have as : TT ++ (N ++ [l']) = (TT ++ N) ++ [l'] := (List.append_assoc _ _ _).symm
  have fl : flC l' s q.2 := by
    obtain ⟨a, b, c, d⟩ := r5
    rw [f1] at a c
    rw [f2] at b d
    exact ⟨a, b, c, d⟩
  refine ⟨N ++ [l'], e + 1, ⟨?_, ?_, fun m hm => ?_⟩, fun m hm => ?_, ?_, ?_, fl, ?_, de, by omega, dp⟩
  · rw [as, de]
    exact TR_app r1.1 hs (by omega) dp
  · rw [as]
    exact List.nodup_append.mpr ⟨r1.2.1, List.pairwise_singleton _ _, fun a ha b hb => by
      rw [List.mem_singleton] at hb
      rw [hb]
      exact fun z => nN (z ▸ ha)⟩
  · rw [as] at hm ⊢
    rcases List.mem_append.mp hm with hm | hm
    · obtain ⟨a, b, c⟩ := r1.2.2 m hm
      exact ⟨a, b, fun x hx => inC_mono (s := q.2) (fun z => z) (fun z => z) (c x hx)⟩
    · rw [List.mem_singleton] at hm
      rw [hm]
      refine ⟨hs.2.1, hn, fun x hx => ?_⟩
      obtain ⟨p, a, b⟩ := hk x hx
      have := r6 p a
      rw [b] at this
      exact inC_mono (s := q.2) (fun z => z) (fun z => z) this
  · rcases List.mem_append.mp hm with hm | hm
    · exact ⟨(r2 m hm).1, Nat.le_of_lt (r2 m hm).2⟩
    · rw [List.mem_singleton] at hm
      rw [hm]
      exact ⟨Rch.rf, Nat.le_refl _⟩
  · rw [r3, c1, cnD_app, ← nI_add, Int32.add_assoc, Int32.add_comm (nI (cnD [l']))]
  · rw [r4, c2, cnA_app, ← nI_add, Int32.add_assoc, Int32.add_comm (nI (cnA [l']))]
  · exact Or.inr (Or.inr ⟨hn, by rw [as]; simp⟩)
theorem lk_some {T : List Nd} {l : List Int32} {d : Int32} : ∀ k, lkD T l k = some d → ∃ i, i < k ∧ (T.getD i ([], 0)).1 = l ∧ (T.getD i ([], 0)).2 = d
  | 0, h => by cases h
  | k + 1, h => by
    unfold lkD at h
    by_cases c : (T.getD k ([], 0)).1 = l
    · rw [if_pos c] at h
      exact ⟨k, by omega, c, Option.some.inj h⟩
    · rw [if_neg c] at h
      obtain ⟨i, h1, h2⟩ := lk_some k h
      exact ⟨i, by omega, h2⟩
theorem lk_none {T : List Nd} {l : List Int32} : ∀ k, lkD T l k = none → ∀ i, i < k → ¬ (T.getD i ([], 0)).1 = l
  | 0, _ => fun i hi => by omega
  | k + 1, h => by
    unfold lkD at h
    by_cases c : (T.getD k ([], 0)).1 = l
    · rw [if_pos c] at h
      cases h
    · rw [if_neg c] at h
      intro i hi
      by_cases e : i = k
      · rw [e]; exact c
      · exact lk_none k h i (by omega)
theorem getDL_mem {TT : List (List Int32)} {i : Nat} (h : i < TT.length) : TT.getD i [] ∈ TT := by
  rw [List.getD_eq_getElem?_getD, List.getElem?_eq_getElem h]
  exact List.getElem_mem _
theorem cdfs : ∀ f, exSp (exC f) f
  | 0 => fun l l' s TT h => absurd h (Nat.not_lt_zero _)
  | f + 1 => by
    intro l l' s TT hf hs g
    have hF := cdfs f
    obtain ⟨n1, n2⟩ := Sm_nt hs
    unfold exC
    by_cases c0 : l.length = 0
    · rw [if_pos c0]
      have e := n1.mp c0
      refine ⟨[], 0, by rw [List.append_nil]; exact GC_fl g rfl (fun _ => rfl) (fun z => z), (fun m hm => by cases hm), (by show s.2.1 = s.2.1 + 0; rw [Int32.add_zero]), (by show s.2.2.1 = s.2.2.1 + 0; rw [Int32.add_zero]), ⟨Or.inr ⟨rfl, by rw [e]; exact Rch.rf⟩, Or.inl rfl, fun _ => rfl, fun z => z⟩, Or.inl ⟨e, rfl⟩, rfl, Nat.zero_le _, Or.inl ⟨fun z => z.1 e, rfl⟩⟩
    · rw [if_neg c0]
      have ne : l' ≠ [] := fun z => c0 (n1.mpr z)
      by_cases c1 : l.getD 0 0 = 0
      · rw [if_pos c1]
        have e := (n2 c0).mp c1
        refine ⟨[], 0, by rw [List.append_nil]; exact GC_fl g rfl (fun z => z) (fun _ => rfl), (fun m hm => by cases hm), (by show s.2.1 = s.2.1 + 0; rw [Int32.add_zero]), (by show s.2.2.1 = s.2.2.1 + 0; rw [Int32.add_zero]), ⟨Or.inl rfl, Or.inr ⟨rfl, l', Rch.rf, ne, e⟩, fun z => z, fun _ => rfl⟩, Or.inr (Or.inl ⟨ne, e, rfl⟩), rfl, Nat.zero_le _, Or.inl ⟨fun z => z.2 e, rfl⟩⟩
      · rw [if_neg c1]
        have hn : ntR l' := ⟨ne, fun z => c1 ((n2 c0).mpr z)⟩
        have h0 := nt_mem hs.2.1 hn
        cases hlk : lkD s.1 l s.1.length with
        | some d =>
          obtain ⟨i, i1, i2, i3⟩ := lk_some _ hlk
          rw [g.1.1] at i1
          obtain ⟨t1, d', t2, t3, t4⟩ := g.1.2 i i1
          rw [i2] at t1
          have e := Sm_r t1 hs
          rw [i3] at t2
          rw [e] at t3 t4
          refine ⟨[], d', by rw [List.append_nil]; exact g, (fun m hm => by cases hm), (by show s.2.1 = s.2.1 + 0; rw [Int32.add_zero]), (by show s.2.2.1 = s.2.2.1 + 0; rw [Int32.add_zero]), flC_rf rfl rfl, Or.inr (Or.inr ⟨hn, by rw [List.append_nil, ← e]; exact getDL_mem i1⟩), t2, t3, t4⟩
        | none =>
          have hl : l' ∉ TT := fun z => by
            obtain ⟨i, hi, e⟩ := List.mem_iff_getElem.mp z
            obtain ⟨t1, -⟩ := g.1.2 i hi
            rw [show TT.getD i [] = l' by rw [List.getD_eq_getElem?_getD, List.getElem?_eq_getElem hi]; exact e] at t1
            exact lk_none _ hlk i (by rw [g.1.1]; exact hi) (Sm_c t1 hs)
          simp only
          by_cases cc : cvr fVars l 10 (fVars (l.getD 0 0)) = fVars (orL l)
          · rw [if_pos cc]
            have con := (con_iff hs hn).mp cc
            obtain ⟨v, hv, m1, m2, ho⟩ := mf_same hs hn
            have ed : exD (exC f) l s = ([resC (fOpp (fBit (nI (v + 1)))) l, resC (fBit (nI (v + 1))) l]).foldl (stpG (exC f)) (0, (s.1, s.2.1 + 1, s.2.2)) := by
              unfold exD
              rw [m1]
              have s1 := Sm_neg hs hv
              have nv1 := (kd_nv hs.2.1 hn (m := resR (-nI (v + 1)) l') (Or.inl ⟨con, Or.inl (by rw [m2])⟩)).2
              obtain ⟨N1, d1, -, -, -, -, -, -, q7, q8, -⟩ := hF _ _ (s.1, s.2.1 + 1, s.2.2) TT (by omega) s1 (GC_fl g rfl (fun z => z) (fun z => z))
              have nv10 := nv_le l'
              show _ = (maxI (maxI 0 (exC f (resC (fOpp (fBit (nI (v + 1)))) l) (s.1, s.2.1 + 1, s.2.2)).1) _, _)
              have z : maxI 0 (exC f (resC (fOpp (fBit (nI (v + 1)))) l) (s.1, s.2.1 + 1, s.2.2)).1 = (exC f (resC (fOpp (fBit (nI (v + 1)))) l) (s.1, s.2.1 + 1, s.2.2)).1 := by
                rw [q7]
                unfold maxI
                by_cases z : (0 : Int32) < nI d1
                · rw [if_pos z]
                · rw [if_neg z]
                  have p : 0 ≤ nI d1 := by
                    have := nv_le (resR (-nI (v + 1)) l')
                    exact nI_ps (by omega)
                  exact Int32.le_antisymm p (Int32.not_lt.mp z)
              rw [z]
              rfl
            rw [ed]
            have k := kfin hF hs hn (by omega) (s0 := (s.1, s.2.1 + 1, s.2.2)) g hl rfl rfl [(resC (fOpp (fBit (nI (v + 1)))) l, resR (-nI (v + 1)) l'), (resC (fBit (nI (v + 1))) l, resR (nI (v + 1)) l')] (fun p hp => by
              rcases List.mem_cons.mp hp with rfl | hp
              · exact ⟨Sm_neg hs hv, Or.inl ⟨con, Or.inl (by rw [m2])⟩⟩
              · rw [List.mem_singleton] at hp
                rw [hp]
                exact ⟨Sm_pos hs hv, Or.inl ⟨con, Or.inr (by rw [m2])⟩⟩) (fun m hm => by
              rcases hm with ⟨_, rfl | rfl⟩ | ⟨z, _⟩
              · exact ⟨_, List.mem_cons_self, by rw [m2]⟩
              · exact ⟨_, List.mem_cons_of_mem _ List.mem_cons_self, by rw [m2]⟩
              · exact absurd con z) (by rw [(cn_con con).1]; rfl) (by rw [(cn_con con).2]; show s.2.2.1 = s.2.2.1 + 0; rw [Int32.add_zero])
            exact k
          · rw [if_neg cc]
            have con : ¬ conR l' := fun z => cc ((con_iff hs hn).mpr z)
            obtain ⟨ps, p1, p2, p3, -, -⟩ := parts_ok hs h0 con
            have ee := exP_Hd (exC f) l l 0 0 (s.1, s.2.1, s.2.2.1 + 1, s.2.2.2)
            rw [← p1] at ee
            have e1 : (exP (exC f) l s).1 = ((ps.map Prod.fst).foldl (stpG (exC f)) (0, (s.1, s.2.1, s.2.2.1 + 1, s.2.2.2))).1 := congrArg (fun q : Int32 × Es => q.1) ee
            have e2 : (exP (exC f) l s).2.2 = ((ps.map Prod.fst).foldl (stpG (exC f)) (0, (s.1, s.2.1, s.2.2.1 + 1, s.2.2.2))).2 := by
              have e3 := congrArg (fun q : Int32 × Es => q.2) ee
              exact e3
            rw [e1, e2]
            exact kfin hF hs hn (by omega) (s0 := (s.1, s.2.1, s.2.2.1 + 1, s.2.2.2)) g hl rfl rfl ps p2 p3 (by rw [(cn_not con).1]; show s.2.1 = s.2.1 + 0; rw [Int32.add_zero]) (by rw [(cn_not con).2]; rfl)
