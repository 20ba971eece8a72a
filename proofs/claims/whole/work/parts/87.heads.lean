/-! the parts of a row, on both sides -/
abbrev Mv (l : List Int32) (c : Int32) : Int32 := cvr fVars l 10 (fVars c)
def Hd (l : List Int32) : List Int32 → Int32 → List Int32
  | [], _ => []
  | c :: m, a => if fVars c &&& a = 0 then c :: Hd l m (a ||| Mv l c) else Hd l m a
def stpG (F : List Int32 → Es → Int32 × Es) (q : Int32 × Es) (r : List Int32) : Int32 × Es := (maxI q.1 (F r q.2).1, (F r q.2).2)
theorem exP_Hd (F : List Int32 → Es → Int32 × Es) (l : List Int32) : ∀ (m : List Int32) (d a : Int32) (s : Es), ((m.foldl (exPs F l) (d, a, s)).1, (m.foldl (exPs F l) (d, a, s)).2.2) = ((Hd l m a).map (fun c => tpC (Mv l c) l)).foldl (stpG F) (d, s)
  | [], _, _, _ => rfl
  | c :: m, d, a, s => by
    unfold Hd
    rw [List.foldl_cons]
    by_cases z : fVars c &&& a = 0
    · have e : exPs F l (d, a, s) c = (maxI d (F (tpC (Mv l c) l) s).1, a ||| Mv l c, (F (tpC (Mv l c) l) s).2) := if_pos z
      rw [if_pos z, e, exP_Hd F l m, List.map_cons, List.foldl_cons]
      rfl
    · have e : exPs F l (d, a, s) c = (d, a, s) := if_neg z
      rw [if_neg z, e, exP_Hd F l m]
theorem pt_Hd (l : List Int32) : ∀ (m : List Int32) (x : Nat) (a : Int32), (m.foldl (ptS l) (nI x, a)).1 = nI (x + (Hd l m a).length)
  | [], _, _ => rfl
  | c :: m, x, a => by
    unfold Hd
    rw [List.foldl_cons]
    by_cases z : fVars c &&& a = 0
    · have e : ptS l (nI x, a) c = (nI (x + 1), a ||| Mv l c) := by
        unfold ptS
        rw [if_pos z, nI_1]
      rw [if_pos z, e, pt_Hd l m, List.length_cons]
      exact congrArg nI (by omega)
    · have e : ptS l (nI x, a) c = (nI x, a) := if_neg z
      rw [if_neg z, e, pt_Hd l m]
/-- the set a is that of the parts of the clauses in D -/
def cvs (l : List Int32) (a : Int32) (D : List Int32) : Prop := ∀ v, v < 10 → (bt a (2 * v + 2) = true ↔ ∃ d ∈ D, bt (Mv l d) (2 * v + 2) = true)
theorem cvs_0 (l : List Int32) : cvs l 0 [] := fun v _ => by rw [b_0]; simp
theorem cvs_s {l D : List Int32} {a c : Int32} (h : cvs l a D) : cvs l (a ||| Mv l c) (D ++ [c]) := fun v hv => by
  rw [b_or, Bool.or_eq_true, h v hv]
  constructor
  · rintro (⟨d, h1, h2⟩ | h)
    · exact ⟨d, List.mem_append_left _ h1, h2⟩
    · exact ⟨c, by simp, h⟩
  · rintro ⟨d, h1, h2⟩
    rcases List.mem_append.mp h1 with h1 | h1
    · exact Or.inl ⟨d, h1, h2⟩
    · rw [List.mem_singleton] at h1
      rw [h1] at h2
      exact Or.inr h2
section HDS
variable {l l' : List Int32}
theorem cvs_meet (hs : Sm l l') (h0 : (0 : Int32) ∉ l') {D : List Int32} {a c : Int32} (h : cvs l a D) (hc : c ∈ l) : fVars c &&& a = 0 ↔ ∀ d ∈ D, fVars c &&& Mv l d = 0 := by
  obtain ⟨k, hk, e⟩ := Sm_ix hs hc
  rw [fv_and e]
  constructor
  · intro z d hd
    rw [fv_and e]
    rintro v hv ⟨b1, b2⟩
    exact z v hv ⟨b1, (h v hv).mpr ⟨d, hd, b2⟩⟩
  · rintro z v hv ⟨b1, b2⟩
    obtain ⟨d, hd, hb⟩ := (h v hv).mp b2
    have := z d hd
    rw [fv_and e] at this
    exact this v hv ⟨b1, hb⟩
theorem self_meet (hs : Sm l l') (h0 : (0 : Int32) ∉ l') {c : Int32} (hc : c ∈ l) : ¬ fVars c &&& Mv l c = 0 := by
  obtain ⟨k, hk, e⟩ := Sm_ix hs hc
  exact (cvr_meet hs h0 hc hk e hk e).mpr CC.rf
theorem Hd_ok (hs : Sm l l') (h0 : (0 : Int32) ∉ l') : ∀ (m D : List Int32) (a : Int32), (∀ c ∈ m, c ∈ l) → (∀ d ∈ D, d ∈ l) → cvs l a D → D.Pairwise (fun d c => fVars c &&& Mv l d = 0) → (∀ c ∈ D ++ Hd l m a, c ∈ l) ∧ (D ++ Hd l m a).Pairwise (fun d c => fVars c &&& Mv l d = 0) ∧ ∀ c ∈ m, ∃ d ∈ D ++ Hd l m a, ¬ fVars c &&& Mv l d = 0
  | [], D, a, _, h2, _, h4 => by
    unfold Hd
    rw [List.append_nil]
    exact ⟨h2, h4, fun c hc => by cases hc⟩
  | c :: m, D, a, h1, h2, h3, h4 => by
    have hc := h1 c List.mem_cons_self
    unfold Hd
    by_cases z : fVars c &&& a = 0
    · rw [if_pos z]
      have zz := (cvs_meet hs h0 h3 hc).mp z
      obtain ⟨g1, g2, g3⟩ := Hd_ok hs h0 m (D ++ [c]) (a ||| Mv l c) (fun d hd => h1 d (List.mem_cons_of_mem _ hd)) (fun d hd => by
        rcases List.mem_append.mp hd with hd | hd
        · exact h2 d hd
        · rw [List.mem_singleton] at hd; rw [hd]; exact hc) (cvs_s h3) (List.pairwise_append.mpr ⟨h4, List.pairwise_singleton _ _, fun d hd e he => by rw [List.mem_singleton] at he; rw [he]; exact zz d hd⟩)
      rw [List.append_assoc] at g1 g2 g3
      refine ⟨g1, g2, fun d hd => ?_⟩
      rcases List.mem_cons.mp hd with rfl | hd
      · exact ⟨d, by simp, self_meet hs h0 hc⟩
      · exact g3 d hd
    · rw [if_neg z]
      obtain ⟨g1, g2, g3⟩ := Hd_ok hs h0 m D a (fun d hd => h1 d (List.mem_cons_of_mem _ hd)) h2 h3 h4
      refine ⟨g1, g2, fun d hd => ?_⟩
      rcases List.mem_cons.mp hd with rfl | hd
      · have : ¬ ∀ e ∈ D, fVars d &&& Mv l e = 0 := fun q => z ((cvs_meet hs h0 h3 hc).mpr q)
        apply Classical.byContradiction
        intro nn
        apply this
        intro e he
        apply Classical.byContradiction
        intro q
        exact nn ⟨e, List.mem_append_left _ he, q⟩
      · exact g3 d hd
theorem part_ex (hs : Sm l l') (h0 : (0 : Int32) ∉ l') {c : Int32} (hc : c ∈ l) : ∃ k y, k < l'.length ∧ CR c (l'.getD k 0) ∧ cnOK (vRow l') l'.length k y ∧ Sm (tpC (Mv l c) l) (prtR l' y) := by
  obtain ⟨k, hk, e⟩ := Sm_ix hs hc
  obtain ⟨y, hy⟩ := mk_mask (CC (vRow l') l'.length k) l'.length hs.2.1.1
  exact ⟨k, y, hk, e, hy, Sm_part hs h0 hc hk e hy⟩
/-- the parts: as many as the heads -/
theorem parts_ok (hs : Sm l l') (h0 : (0 : Int32) ∉ l') (hc : ¬ conR l') : ∃ ps : List (List Int32 × List Int32), ps.map Prod.fst = (Hd l l 0).map (fun c => tpC (Mv l c) l) ∧ (∀ p ∈ ps, Sm p.1 p.2 ∧ KdR l' p.2) ∧ (∀ m, KdR l' m → ∃ p ∈ ps, p.2 = m) ∧ (ps.map Prod.snd).Nodup ∧ ps.length = (Hd l l 0).length := by
  obtain ⟨g1, g2, g3⟩ := Hd_ok hs h0 l [] 0 (fun c h => h) (fun d hd => by cases hd) (cvs_0 l) List.Pairwise.nil
  rw [List.nil_append] at g1 g2 g3
  have sp : ∀ c ∈ l, Sm (tpC (Mv l c) l) (Classical.epsilon (Sm (tpC (Mv l c) l))) := fun c hc => by
    obtain ⟨k, y, _, _, _, q⟩ := part_ex hs h0 hc
    exact Classical.epsilon_spec ⟨_, q⟩
  refine ⟨(Hd l l 0).map (fun c => (tpC (Mv l c) l, Classical.epsilon (Sm (tpC (Mv l c) l)))), by rw [List.map_map]; rfl, fun p hp => ?_, fun m hm => ?_, ?_, by rw [List.length_map]⟩
  · obtain ⟨c, h1, rfl⟩ := List.mem_map.mp hp
    obtain ⟨k, y, hk, e, hy, q⟩ := part_ex hs h0 (g1 c h1)
    refine ⟨sp c (g1 c h1), Or.inr ⟨hc, k, y, hk, hy, ?_⟩⟩
    exact Sm_r (sp c (g1 c h1)) q
  · rcases hm with ⟨z, _⟩ | ⟨_, k, y, hk, hy, rfl⟩
    · exact absurd z hc
    · obtain ⟨c, c1, c2⟩ := hs.2.2.2 _ (getD_mem (l := l') hk)
      obtain ⟨d, d1, d2⟩ := g3 c c1
      refine ⟨_, List.mem_map.mpr ⟨d, d1, rfl⟩, ?_⟩
      obtain ⟨k', y', hk', e', hy', q'⟩ := part_ex hs h0 (g1 d d1)
      have cc := (cvr_meet hs h0 (g1 d d1) hk' e' hk c2).mp d2
      have ey : y' = y := cn_eq hk' hy' hy cc
      rw [← ey]
      exact Sm_r (sp d (g1 d d1)) q'
  · rw [List.map_map]
    refine List.pairwise_map.mpr (g2.imp_of_mem (fun {a b} ha hb hn hz => ?_))
    have s1 := sp a (g1 a ha)
    have s2 := sp b (g1 b hb)
    have hz' : Classical.epsilon (Sm (tpC (Mv l a) l)) = Classical.epsilon (Sm (tpC (Mv l b) l)) := hz
    rw [hz'] at s1
    have e := Sm_c s1 s2
    have m : b ∈ tpC (Mv l b) l := ((tpC_ok _ _).2 b).mpr ⟨g1 b hb, self_meet hs h0 (g1 b hb)⟩
    rw [← e] at m
    exact ((tpC_ok _ _).2 b).mp m |>.2 hn
end HDS
