/-! the search of the reference: what holds while it runs -/
abbrev St : Type := List (List Int32) × (Nat → Int32) × (Nat → Int32) × (Nat → Int32) × (Nat → Int32) × (Nat → Int32) × (Nat → Int32) × (Nat → Int32) × (Nat → Int32) × Int32 × Int32
abbrev zT (s : St) : List (List Int32) := s.1
abbrev zV (s : St) : Nat → Int32 := s.2.1
abbrev zC (s : St) : Nat → Int32 := s.2.2.1
abbrev zD (s : St) : Nat → Int32 := s.2.2.2.1
abbrev zW (s : St) : Nat → Int32 := s.2.2.2.2.1
abbrev zM (s : St) : Nat → Int32 := s.2.2.2.2.2.1
abbrev zN (s : St) : Nat → Int32 := s.2.2.2.2.2.2.1
abbrev zG (s : St) : Nat → Int32 := s.2.2.2.2.2.2.2.1
abbrev zA (s : St) : Nat → Int32 := s.2.2.2.2.2.2.2.2.1
abbrev zF (s : St) : Int32 := s.2.2.2.2.2.2.2.2.2.1
abbrev zH (s : St) : Int32 := s.2.2.2.2.2.2.2.2.2.2
def inS (s : St) (m : List Int32) : Prop := (m = [] ∧ zH s = 1) ∨ (m ≠ [] ∧ m.getD 0 0 = 0 ∧ zF s = 1) ∨ (ntR m ∧ m ∈ zT s)
/-- how many children a node has -/
def CtR (l : List Int32) (c : Nat) : Prop := (conR l ∧ c = 1) ∨ (¬ conR l ∧ ∃ K : List (List Int32), K.Nodup ∧ (∀ m, m ∈ K ↔ KdR l m) ∧ K.length = c)
/-- a node that is done -/
def nOK (s : St) (i : Nat) : Prop := ∃ v d c, dvR ((zT s).getD i []) v ∧ zV s (i + 2) = nI v ∧ zC s (i + 2) = nI c ∧ CtR ((zT s).getD i []) c ∧ zD s (i + 2) = nI d ∧ DpR (nvR ((zT s).getD i []) + 1) ((zT s).getD i []) d ∧ d ≤ nvR ((zT s).getD i []) + 1 ∧ ∀ m, KdR ((zT s).getD i []) m → inS s m
def flg (l : List Int32) (s s' : St) : Prop := (zH s' = zH s ∨ (zH s' = 1 ∧ Rch ntR KdR l [])) ∧ (zF s' = zF s ∨ (zF s' = 1 ∧ ∃ m, Rch ntR KdR l m ∧ m ≠ [] ∧ m.getD 0 0 = 0)) ∧ (zH s = 1 → zH s' = 1) ∧ (zF s = 1 → zF s' = 1)
def idOK (s : St) (l : List Int32) (res : Nat) : Prop := (l = [] ∧ res = 1 ∧ zH s = 1) ∨ (l ≠ [] ∧ l.getD 0 0 = 0 ∧ res = 0 ∧ zF s = 1) ∨ (ntR l ∧ ∃ i, i < (zT s).length ∧ (zT s).getD i [] = l ∧ res = i + 2)
/-- what the search of a row l at level L does -/
def dP (L : Nat) (l : List Int32) (s s' : St) (res : Nat) : Prop :=
  (∃ N, zT s' = zT s ++ N ∧ N.length ≤ f2 (nvR l) ∧ ∀ m ∈ N, VR m ∧ ntR m ∧ Rch ntR KdR l m) ∧ (zT s').Nodup ∧
  (∀ i, i < (zT s).length + 2 → zV s' i = zV s i ∧ zC s' i = zC s i ∧ zD s' i = zD s i) ∧
  (∀ i, (zT s).length ≤ i → i < (zT s').length → nOK s' i) ∧
  (∀ k, k < 16 * (L + 1) → zW s' k = zW s k) ∧ (∀ j, j ≤ L → zM s' j = zM s j) ∧ (∀ j, j < L → zN s' j = zN s j ∧ zG s' j = zG s j ∧ zA s' j = zA s j) ∧
  flg l s s' ∧ idOK s' l res ∧ ∃ d, zD s' res = nI d ∧ d ≤ nvR l + 1 ∧ DpR (nvR l + 1) l d
/-- before it -/
def pR (L : Nat) (l : List Int32) (s : St) : Prop := VR l ∧ Lv (zW s) (zM s) L l ∧ L + nvR l ≤ 10 ∧ (zT s).length + f2 (nvR l) ≤ 1023 ∧ (zT s).Nodup ∧
  (∀ i, i < (zT s).length → VR ((zT s).getD i []) ∧ ntR ((zT s).getD i []) ∧ (nOK s i ∨ nvR l < nvR ((zT s).getD i []))) ∧ zD s 0 = 0 ∧ zD s 1 = 0
/-- a node under way at level L: D the kids that are done, a the greatest depth of theirs -/
def IPI (L : Nat) (l : List Int32) (s0 : St) (v : Nat) (s : St) (D : List (List Int32)) (a S : Nat) : Prop :=
  (∃ N, zT s = zT s0 ++ l :: N ∧ N.length ≤ S ∧ ∀ m ∈ N, VR m ∧ ntR m ∧ Rch ntR KdR l m) ∧ (zT s).Nodup ∧
  (∀ i, i < (zT s0).length + 2 → zV s i = zV s0 i ∧ zC s i = zC s0 i ∧ zD s i = zD s0 i) ∧ zV s ((zT s0).length + 2) = nI v ∧
  (∀ i, (zT s0).length < i → i < (zT s).length → nOK s i) ∧
  (∀ k, k < 16 * (L + 1) → zW s k = zW s0 k) ∧ (∀ j, j ≤ L → zM s j = zM s0 j) ∧ (∀ j, j < L → zN s j = zN s0 j ∧ zG s j = zG s0 j ∧ zA s j = zA s0 j) ∧
  zN s L = nI ((zT s0).length + 2) ∧ zA s L = nI a ∧ a ≤ nvR l ∧ flg l s0 s ∧ (∀ m ∈ D, KdR l m ∧ inS s m ∧ ∃ e, e ≤ a ∧ DpR (nvR l) m e) ∧ (a = 0 ∨ ∃ m ∈ D, DpR (nvR l) m a)
theorem inS_mono {s s' : St} {N : List (List Int32)} (hT : zT s' = zT s ++ N) (h1 : zH s = 1 → zH s' = 1) (h2 : zF s = 1 → zF s' = 1) {m : List Int32} (x : inS s m) : inS s' m := by
  rcases x with ⟨a, b⟩ | ⟨a, b, c⟩ | ⟨a, b⟩
  · exact Or.inl ⟨a, h1 b⟩
  · exact Or.inr (Or.inl ⟨a, b, h2 c⟩)
  · exact Or.inr (Or.inr ⟨a, by rw [hT]; exact List.mem_append_left _ b⟩)
theorem nOK_mono {s s' : St} {N : List (List Int32)} (hT : zT s' = zT s ++ N) (h1 : zH s = 1 → zH s' = 1) (h2 : zF s = 1 → zF s' = 1) {i : Nat} (hi : i < (zT s).length) (hv : zV s' (i + 2) = zV s (i + 2)) (hc : zC s' (i + 2) = zC s (i + 2)) (hd : zD s' (i + 2) = zD s (i + 2)) (x : nOK s i) : nOK s' i := by
  have e : (zT s').getD i [] = (zT s).getD i [] := by rw [hT]; exact getD_app hi
  obtain ⟨v, d, c, x1, x2, x3, x4, x5, x6, x7, x8⟩ := x
  exact ⟨v, d, c, by rw [e]; exact x1, hv.trans x2, hc.trans x3, by rw [e]; exact x4, hd.trans x5, by rw [e]; exact x6, by rw [e]; exact x7, fun m hm => inS_mono hT h1 h2 (x8 m (by rw [← e]; exact hm))⟩
theorem idOK_inS {s : St} {l : List Int32} {res : Nat} (x : idOK s l res) : inS s l := by
  rcases x with ⟨a, _, b⟩ | ⟨a, b, _, c⟩ | ⟨a, i, h1, h2, _⟩
  · exact Or.inl ⟨a, b⟩
  · exact Or.inr (Or.inl ⟨a, b, c⟩)
  · refine Or.inr (Or.inr ⟨a, ?_⟩)
    rw [← h2, List.getD_eq_getElem?_getD, List.getElem?_eq_getElem h1]
    exact List.getElem_mem _
theorem flg_trans {l m : List Int32} {s s1 s2 : St} (hm : Rch ntR KdR l m) (x : flg l s s1) (y : flg m s1 s2) : flg l s s2 := by
  obtain ⟨a1, a2, a3, a4⟩ := x
  obtain ⟨b1, b2, b3, b4⟩ := y
  refine ⟨?_, ?_, fun z => b3 (a3 z), fun z => b4 (a4 z)⟩
  · rcases b1 with b1 | ⟨b1, c⟩
    · rcases a1 with a1 | ⟨a1, c⟩
      · exact Or.inl (b1.trans a1)
      · exact Or.inr ⟨b1.trans a1, c⟩
    · exact Or.inr ⟨b1, hm.trans c⟩
  · rcases b2 with b2 | ⟨b2, q, c, c2⟩
    · rcases a2 with a2 | ⟨a2, c⟩
      · exact Or.inl (b2.trans a2)
      · exact Or.inr ⟨b2.trans a2, c⟩
    · exact Or.inr ⟨b2, q, hm.trans c, c2⟩
/-- a step down changes the next level's row, what is gone and the count of children, no more -/
def mvS (L i : Nat) (s s1 : St) : Prop := zT s1 = zT s ∧ zV s1 = zV s ∧ (∀ j, j ≠ i + 2 → zC s1 j = zC s j) ∧ zD s1 = zD s ∧ (∀ k, k < 16 * (L + 1) → zW s1 k = zW s k) ∧ (∀ j, j ≤ L → zM s1 j = zM s j) ∧ zN s1 = zN s ∧ (∀ j, j < L → zG s1 j = zG s j) ∧ zA s1 = zA s ∧ zF s1 = zF s ∧ zH s1 = zH s
theorem nOK_mv {L i : Nat} {s s1 : St} (x : mvS L i s s1) {j : Nat} (hj : j ≠ i) (y : nOK s j) (hl : j < (zT s).length) : nOK s1 j := by
  obtain ⟨x1, x2, x3, x4, -, -, -, -, -, x10, x11⟩ := x
  exact nOK_mono (N := []) (by rw [x1, List.append_nil]) (fun z => x11.trans z) (fun z => x10.trans z) hl (by rw [x2]) (x3 _ (by omega)) (by rw [x4]) y
theorem IPI_mv {L : Nat} {l : List Int32} {s0 s s1 : St} {v a S : Nat} {D : List (List Int32)} (x : IPI L l s0 v s D a S) (y : mvS L (zT s0).length s s1) : IPI L l s0 v s1 D a S := by
  have y0 := y
  obtain ⟨y1, y2, y3, y4, y5, y6, y7, y8, y9, y10, y11⟩ := y
  obtain ⟨x1, x2, x3, x4, x5, x6, x7, x8, x9, x10, x11, x12, x13, x14⟩ := x
  have inm : ∀ m, inS s m → inS s1 m := fun m z => inS_mono (N := []) (by rw [y1, List.append_nil]) (fun z => y11.trans z) (fun z => y10.trans z) z
  refine ⟨by rw [y1]; exact x1, by rw [y1]; exact x2, fun i hi => ?_, by rw [y2]; exact x4, fun i h1 h2 => ?_, fun k hk => (y5 k hk).trans (x6 k hk), fun j hj => (y6 j hj).trans (x7 j hj), fun j hj => ?_, by rw [y7]; exact x9, by rw [y9]; exact x10, x11, ?_, fun m hm => ?_, x14⟩
  · obtain ⟨z1, z2, z3⟩ := x3 i hi
    exact ⟨by rw [y2]; exact z1, (y3 i (by omega)).trans z2, by rw [y4]; exact z3⟩
  · rw [y1] at h2
    exact nOK_mv y0 (by omega) (x5 i h1 h2) h2
  · obtain ⟨z1, z2, z3⟩ := x8 j hj
    exact ⟨by rw [y7]; exact z1, (y8 j hj).trans z2, by rw [y9]; exact z3⟩
  · obtain ⟨a1, a2, a3, a4⟩ := x12
    exact ⟨by rw [y11]; exact a1, by rw [y10]; exact a2, fun z => by rw [y11]; exact a3 z, fun z => by rw [y10]; exact a4 z⟩
  · obtain ⟨z1, z2, z3⟩ := x13 m hm
    exact ⟨z1, inm m z2, z3⟩
/-- the state with a deepest depth written -/
def stA (s : St) (A : Nat → Int32) : St := (zT s, zV s, zC s, zD s, zW s, zM s, zN s, zG s, A, zF s, zH s)
def stD (s : St) (D : Nat → Int32) : St := (zT s, zV s, zC s, D, zW s, zM s, zN s, zG s, zA s, zF s, zH s)
theorem nOK_A {s : St} {A : Nat → Int32} {i : Nat} : nOK (stA s A) i ↔ nOK s i := Iff.rfl
theorem inS_A {s : St} {A : Nat → Int32} {m : List Int32} : inS (stA s A) m ↔ inS s m := Iff.rfl
/-- a kid is done -/
theorem IPI_kid {L : Nat} {l m : List Int32} {s0 s s' : St} {v a S d res : Nat} {D : List (List Int32)} (hl : VR l) (hn : ntR l) (x : IPI L l s0 v s D a S) (hk : KdR l m) (p : dP (L + 1) m s s' res) (hd : zD s' res = nI d) (hd2 : d ≤ nvR m + 1) (hd3 : DpR (nvR m + 1) m d) :
    IPI L l s0 v (stA s' (upd (zA s') L (nI (max a d)))) (m :: D) (max a d) (S + f2 (nvR m)) := by
  obtain ⟨km, kn⟩ := kd_nv hl hn hk
  obtain ⟨⟨N0, t1, t2, t3⟩, x2, x3, x4, x5, x6, x7, x8, x9, x10, x11, x12, x13, x14⟩ := x
  obtain ⟨⟨N, p1, p2, p3⟩, q2, q3, q4, q5, q6, q7, q8, q9, -⟩ := p
  have rm : Rch ntR KdR l m := Rch.rf.st hn hk
  have len : (zT s).length = (zT s0).length + 1 + N0.length := by rw [t1, List.length_append, List.length_cons]; omega
  have len' : (zT s').length = (zT s).length + N.length := by rw [p1, List.length_append]
  have fm := q8
  obtain ⟨-, -, f3, f4⟩ := q8
  have inm : ∀ m, inS s m → inS s' m := fun m z => inS_mono p1 f3 f4 z
  refine ⟨⟨N0 ++ N, ?_, ?_, fun q hq => ?_⟩, q2, fun i hi => ?_, ?_, fun i h1 h2 => ?_, fun k hk => ?_, fun j hj => ?_, fun j hj => ?_, ?_, pk_us, by omega, flg_trans rm x12 fm, fun q hq => ?_, ?_⟩
  · show zT s' = _
    rw [p1, t1, List.append_assoc, List.cons_append]
  · rw [List.length_append]; omega
  · rcases List.mem_append.mp hq with z | z
    · exact t3 q z
    · obtain ⟨a1, a2, a3⟩ := p3 q z
      exact ⟨a1, a2, rm.trans a3⟩
  · obtain ⟨z1, z2, z3⟩ := x3 i hi
    obtain ⟨w1, w2, w3⟩ := q3 i (by omega)
    exact ⟨w1.trans z1, w2.trans z2, w3.trans z3⟩
  · exact (q3 _ (by omega)).1.trans x4
  · rw [nOK_A]
    have h2' : i < (zT s').length := h2
    by_cases c : i < (zT s).length
    · obtain ⟨w1, w2, w3⟩ := q3 (i + 2) (by omega)
      exact nOK_mono p1 f3 f4 c w1 w2 w3 (x5 i h1 c)
    · exact q4 i (by omega) h2'
  · exact (q5 k (by omega)).trans (x6 k hk)
  · exact (q6 j (by omega)).trans (x7 j hj)
  · obtain ⟨z1, z2, z3⟩ := x8 j hj
    obtain ⟨w1, w2, w3⟩ := q7 j (by omega)
    refine ⟨w1.trans z1, w2.trans z2, ?_⟩
    show upd (zA s') L _ j = _
    rw [pk_un (by omega)]
    exact w3.trans z3
  · exact (q7 L (by omega)).1.trans x9
  · rcases List.mem_cons.mp hq with rfl | hq
    · exact ⟨hk, idOK_inS q9, d, by omega, hd3.mono (by omega)⟩
    · obtain ⟨z1, z2, e, z3, z4⟩ := x13 q hq
      exact ⟨z1, inm q z2, e, by omega, z4⟩
  · rcases Nat.le_total a d with c | c
    · rw [Nat.max_eq_right c]
      exact Or.inr ⟨m, List.mem_cons_self, hd3.mono (by omega)⟩
    · rw [Nat.max_eq_left c]
      rcases x14 with z | ⟨q, z1, z2⟩
      · exact Or.inl z
      · exact Or.inr ⟨q, List.mem_cons_of_mem _ z1, z2⟩
/-- all kids are done -/
theorem IPI_end {L : Nat} {l : List Int32} {s0 s : St} {v a S c : Nat} {D : List (List Int32)} (hvr : VR l) (hn : ntR l) (x : IPI L l s0 v s D a S) (hS : S + 1 ≤ f2 (nvR l)) (hv : dvR l v) (hc : zC s ((zT s0).length + 2) = nI c) (hct : CtR l c) (all : ∀ m, KdR l m → m ∈ D) :
    dP L l s0 (stD s (upd (zD s) ((zT s0).length + 2) (nI (a + 1)))) ((zT s0).length + 2) := by
  obtain ⟨⟨N0, t1, t2, t3⟩, x2, x3, x4, x5, x6, x7, x8, x9, x10, x11, x12, x13, x14⟩ := x
  have len : (zT s).length = (zT s0).length + 1 + N0.length := by rw [t1, List.length_append, List.length_cons]; omega
  have gi : (zT s).getD (zT s0).length [] = l := by
    rw [t1, List.getD_eq_getElem?_getD, List.getElem?_append_right (Nat.le_refl _)]
    simp
  have gi' : (zT (stD s (upd (zD s) ((zT s0).length + 2) (nI (a + 1))))).getD (zT s0).length [] = l := gi
  have dp : DpR (nvR l + 1) l (a + 1) := by
    refine Or.inr ⟨hn, a, rfl, fun m hm => ?_, ?_⟩
    · obtain ⟨-, -, e, h1, h2⟩ := x13 m (all m hm)
      exact ⟨e, h1, h2⟩
    · rcases x14 with z | ⟨q, z1, z2⟩
      · exact Or.inl z
      · exact Or.inr ⟨q, (x13 q z1).1, z2⟩
  refine ⟨⟨l :: N0, t1, by rw [List.length_cons]; omega, fun m hm => ?_⟩, x2, fun i hi => ?_, fun i h1 h2 => ?_, x6, x7, x8, x12, Or.inr (Or.inr ⟨hn, (zT s0).length, by show _ < (zT s).length; omega, gi, rfl⟩), a + 1, pk_us, by omega, dp⟩
  · rcases List.mem_cons.mp hm with rfl | hm
    · exact ⟨hvr, hn, Rch.rf⟩
    · exact t3 m hm
  · obtain ⟨z1, z2, z3⟩ := x3 i hi
    refine ⟨z1, z2, ?_⟩
    show upd (zD s) _ _ i = _
    rw [pk_un (by omega)]
    exact z3
  · have h2' : i < (zT s).length := h2
    by_cases e : i = (zT s0).length
    · subst e
      refine ⟨v, a + 1, c, by rw [gi']; exact hv, x4, hc, by rw [gi']; exact hct, pk_us, by rw [gi']; exact dp, by rw [gi']; omega, fun m hm => ?_⟩
      rw [gi'] at hm
      exact (x13 m (all m hm)).2.1
    · obtain ⟨v', d', c', y1, y2, y3, y4, y5, y6, y7, y8⟩ := x5 i (by omega) h2'
      refine ⟨v', d', c', y1, y2, y3, y4, ?_, y6, y7, y8⟩
      show upd (zD s) _ _ (i + 2) = _
      rw [pk_un (by omega)]
      exact y5
