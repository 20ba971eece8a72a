/-! the graphs of both sides say the same -/
theorem rk_ok : ∀ (f : Nat) (l l' : List Int32), nvR l' < f → Sm l l' → Rk f l
  | 0, _, _, h, _ => absurd h (Nat.not_lt_zero _)
  | f + 1, l, l', h, hs => by
    obtain ⟨n1, n2⟩ := Sm_nt hs
    unfold Rk
    by_cases c0 : l.length = 0
    · exact Or.inl c0
    · by_cases c1 : l.getD 0 0 = 0
      · exact Or.inr (Or.inl c1)
      · refine Or.inr (Or.inr ?_)
        have hn : ntR l' := ⟨fun z => c0 (n1.mpr z), fun z => c1 ((n2 c0).mpr z)⟩
        by_cases cc : cvr fVars l 10 (fVars (l.getD 0 0)) = fVars (orL l)
        · rw [if_pos cc]
          have con := (con_iff hs hn).mp cc
          obtain ⟨v, hv, m1, m2, ho⟩ := mf_same hs hn
          rw [m1]
          have a := (kd_nv hs.2.1 hn (m := resR (-nI (v + 1)) l') (Or.inl ⟨con, Or.inl (by rw [m2])⟩)).2
          have b := (kd_nv hs.2.1 hn (m := resR (nI (v + 1)) l') (Or.inl ⟨con, Or.inr (by rw [m2])⟩)).2
          exact ⟨rk_ok f _ _ (by omega) (Sm_neg hs hv), rk_ok f _ _ (by omega) (Sm_pos hs hv)⟩
        · rw [if_neg cc]
          have con : ¬ conR l' := fun z => cc ((con_iff hs hn).mpr z)
          intro c hc
          obtain ⟨k, y, hk, e, hy, q⟩ := part_ex hs (nt_mem hs.2.1 hn) hc
          have a := (kd_nv hs.2.1 hn (m := prtR l' y) (Or.inr ⟨con, k, y, hk, hy, rfl⟩)).2
          exact rk_ok f _ _ (by omega) q
theorem DpG_u {nt : List Int32 → Prop} {Kd : List Int32 → List Int32 → Prop} : ∀ {f : Nat} {l : List Int32} {d d' : Nat}, DpG nt Kd f l d → DpG nt Kd f l d' → d = d'
  | 0, _, _, _, h, _ => False.elim h
  | f + 1, l, d, d', h, h' => by
    rcases h with ⟨a, b⟩ | ⟨a, e, b, c1, c2⟩
    · rcases h' with ⟨a', b'⟩ | ⟨a', _⟩
      · rw [b, b']
      · exact absurd a' a
    · rcases h' with ⟨a', _⟩ | ⟨a', e', b', c1', c2'⟩
      · exact absurd a a'
      · have h1 : e ≤ e' := by
          rcases c2 with c2 | ⟨m, k, q⟩
          · omega
          · obtain ⟨e'', z1, z2⟩ := c1' m k
            rw [DpG_u q z2]
            exact z1
        have h2 : e' ≤ e := by
          rcases c2' with c2 | ⟨m, k, q⟩
          · omega
          · obtain ⟨e'', z1, z2⟩ := c1 m k
            rw [DpG_u q z2]
            exact z1
        omega
theorem rowL_ct (q : List Int32 → Bool) : ∀ T : List (List Int32), fb_ct (fun j => q (T.getD j [])) T.length = T.countP q
  | [] => rfl
  | c :: l => by
    rw [List.length_cons, Nat.add_comm, fb_ct_split, List.countP_cons]
    have e : fb_ct (fun k => q ((c :: l).getD (1 + k) [])) l.length = l.countP q := by
      rw [← rowL_ct q l]
      exact fb_ct_cong (fun k _ => by rw [Nat.add_comm]; rfl)
    have e1 : fb_ct (fun j => q ((c :: l).getD j [])) 1 = if q c = true then 1 else 0 := by
      show 0 + (if q c then 1 else 0) = _
      rw [Nat.zero_add]
    rw [e, Nat.add_comm, e1]
/-- what is reached is in the table or one of the two leaves -/
theorem in_rch {l' : List Int32} {s : Es} {TT : List (List Int32)} (g : GC s TT) (h0 : inC s TT l') {m : List Int32} (r : Rch ntR KdR l' m) : inC s TT m :=
  Rch.ind (P := fun m => inC s TT m) h0 (fun p m _ hp hn hk => by
    rcases hp with ⟨a, _⟩ | ⟨_, b, _⟩ | ⟨_, b⟩
    · exact absurd a hn.1
    · exact absurd b hn.2
    · exact (g.2.2 p b).2.2 m hk) r
theorem fin_rch {l' : List Int32} {z : St} {res : Nat} (g : FIN l' z res) {m : List Int32} (r : Rch ntR KdR l' m) : inS z m :=
  Rch.ind (P := fun m => inS z m) (idOK_inS g.2.2.2.2.2.2.1) (fun p m _ hp hn hk => by
    rcases hp with ⟨a, _⟩ | ⟨_, b, _⟩ | ⟨_, b⟩
    · exact absurd a hn.1
    · exact absurd b hn.2
    · obtain ⟨i, hi, e⟩ := List.mem_iff_getElem.mp b
      obtain ⟨v, d, c, -, -, -, -, -, -, -, q⟩ := g.2.2.2.1 i hi
      rw [show (zT z).getD i [] = p by rw [List.getD_eq_getElem?_getD, List.getElem?_eq_getElem hi]; exact e] at q
      exact q m hk) r
theorem many_eq {l' : List Int32} {z : St} {res : Nat} (g : FIN l' z res) : rMany z true = cnD (zT z) ∧ rMany z false = cnA (zT z) := by
  have key : ∀ i, i < (zT z).length → decide (0 < zV z (i + 2)) = @decide (conR ((zT z).getD i [])) (Classical.propDecidable _) := fun i hi => by
    obtain ⟨v, d, c, h1, h2, -⟩ := g.2.2.2.1 i hi
    obtain ⟨q1, q2, -⟩ := g.2.2.1 _ (getDL_mem hi)
    rw [h2]
    rcases h1 with ⟨a, b⟩ | ⟨a, b⟩
    · obtain ⟨u, hu, e, -⟩ := mf_occ q1 q2
      rw [b, e, decide_eq_true (show (0 : Int32) < nI (u + 1) from nI_lt (a := 0) (b := u + 1) (by omega) (by omega))]
      exact (@decide_eq_true _ (Classical.propDecidable _) a).symm
    · rw [b, @decide_eq_false _ (Classical.propDecidable _) a]
      rfl
  constructor
  · unfold rMany cnD
    rw [← rowL_ct]
    exact fb_ct_cong (fun i hi => by rw [key i hi]; simp)
  · unfold rMany cnA
    rw [← rowL_ct]
    exact fb_ct_cong (fun i hi => by rw [key i hi]; cases @decide (conR ((zT z).getD i [])) (Classical.propDecidable _) <;> rfl)
theorem Hd_len (l : List Int32) : ∀ (m : List Int32) (a : Int32), (Hd l m a).length ≤ m.length
  | [], _ => Nat.le_refl _
  | c :: m, a => by
    unfold Hd
    split
    · have := Hd_len l m (a ||| Mv l c)
      simp only [List.length_cons]
      omega
    · have := Hd_len l m a
      simp only [List.length_cons]
      omega
section GQ
variable {l l' : List Int32} {z : St} {res : Nat}
theorem Hd_con (hs : Sm l l') (hn : ntR l') : (Hd l l 0).length = 1 ↔ conR l' := by
  have h0 := nt_mem hs.2.1 hn
  obtain ⟨g1, g2, g3⟩ := Hd_ok hs h0 l [] 0 (fun c h => h) (fun d hd => by cases hd) (cvs_0 l) List.Pairwise.nil
  rw [List.nil_append] at g1 g2 g3
  have l0 : 0 < l'.length := List.length_pos_iff.mpr hn.1
  have ln := Sm_len hs
  constructor
  · intro e
    obtain ⟨a, ha⟩ := List.length_eq_one_iff.mp e
    rw [ha] at g1 g3
    have hal := g1 a List.mem_cons_self
    obtain ⟨k0, hk0, e0⟩ := Sm_ix hs hal
    have all : ∀ k, k < l'.length → CC (vRow l') l'.length k0 k := fun k hk => by
      obtain ⟨c, hc, ec⟩ := hs.2.2.2 _ (getD_mem (l := l') hk)
      obtain ⟨d, hd, hm⟩ := g3 c hc
      rw [List.mem_singleton] at hd
      rw [hd] at hm
      exact (cvr_meet hs h0 hal hk0 e0 hk ec).mp hm
    exact fun k hk => ((all 0 l0).symm hk0).trans (all k hk)
  · intro con
    have all : ∀ c ∈ l, ∀ d ∈ l, ¬ fVars c &&& Mv l d = 0 := fun c hc d hd => by
      obtain ⟨k, hk, e⟩ := Sm_ix hs hc
      obtain ⟨k0, hk0, e0⟩ := Sm_ix hs hd
      exact (cvr_meet hs h0 hd hk0 e0 hk e).mpr (((con k0 hk0).symm l0).trans (con k hk))
    obtain ⟨d, hd, -⟩ := g3 (l.getD 0 0) (getD_mem (by omega))
    cases hh : Hd l l 0 with
    | nil => rw [hh] at hd; cases hd
    | cons a t =>
      cases t with
      | nil => rfl
      | cons b t =>
        rw [hh] at g1 g2
        have := (List.pairwise_cons.mp g2).1 b List.mem_cons_self
        exact absurd this (all b (g1 b (by simp)) a (g1 a (by simp)))
theorem pt_eq (hs : Sm l l') (hn : ntR l') {c : Nat} (hc : CtR l' c) : ptC l = nI c := by
  obtain ⟨n1, n2⟩ := Sm_nt hs
  have c0 : ¬ l.length = 0 := fun q => hn.1 (n1.mp q)
  have c1 : ¬ l.getD 0 0 = 0 := fun q => hn.2 ((n2 c0).mp q)
  unfold ptC
  rw [if_neg c0, if_neg c1, show ((0 : Int32), (0 : Int32)) = (nI 0, 0) from rfl, pt_Hd, Nat.zero_add]
  rcases hc with ⟨a, b⟩ | ⟨a, K, k1, k2, k3⟩
  · rw [(Hd_con hs hn).mpr a, b]
  · obtain ⟨ps, p1, p2, p3, p4, p5⟩ := parts_ok hs (nt_mem hs.2.1 hn) a
    have pm : K.Perm (ps.map Prod.snd) := (List.perm_ext_iff_of_nodup k1 p4).mpr (fun m => by
      rw [k2, List.mem_map]
      constructor
      · intro hm
        obtain ⟨p, a, b⟩ := p3 m hm
        exact ⟨p, a, b⟩
      · rintro ⟨p, a, rfl⟩
        exact (p2 p a).2)
    rw [← k3, pm.length_eq, List.length_map, p5]
theorem pc_eq (hs : Sm l l') {v : Int32} (h : cpP l' v) : ptC l = v := by
  obtain ⟨n1, n2⟩ := Sm_nt hs
  rcases h with ⟨a, b⟩ | ⟨a, c, b, e⟩
  · unfold ptC
    by_cases c0 : l.length = 0
    · rw [if_pos c0, b]
    · rw [if_neg c0]
      by_cases c1 : l.getD 0 0 = 0
      · rw [if_pos c1, b]
      · exact absurd ⟨fun q => c0 (n1.mpr q), fun q => c1 ((n2 c0).mpr q)⟩ a
  · rw [pt_eq hs a b, e]
theorem rv_eq (hs : Sm l l') {v : Int32} (h : rvP l' v) : rvC l = v := by
  obtain ⟨n1, n2⟩ := Sm_nt hs
  unfold rvC
  rcases h with ⟨a, b⟩ | ⟨a, b, c⟩ | ⟨a, w, b, c⟩
  · rw [if_pos (n1.mpr a), b]
  · have c0 : ¬ l.length = 0 := fun q => a (n1.mp q)
    rw [if_neg c0, if_pos ((n2 c0).mpr b), c]
  · have c0 : ¬ l.length = 0 := fun q => a.1 (n1.mp q)
    have c1 : ¬ l.getD 0 0 = 0 := fun q => a.2 ((n2 c0).mp q)
    rw [if_neg c0, if_neg c1]
    have pe : ptC l = 1 ↔ conR l' := by
      unfold ptC
      rw [if_neg c0, if_neg c1, show ((0 : Int32), (0 : Int32)) = (nI 0, 0) from rfl, pt_Hd, Nat.zero_add, ← Hd_con hs a]
      have := Hd_len l l 0
      have := Sm_len hs
      have := hs.2.1.1
      exact nI_eq (b := 1) (by omega) (by decide)
    rcases b with ⟨d, e⟩ | ⟨d, e⟩
    · obtain ⟨u, hu, m1, m2, -⟩ := mf_same hs a
      rw [if_pos (pe.mpr d), c, e, m1, m2]
    · rw [if_neg (fun q => d (pe.mp q)), c, e]
      rfl
/-- the class's search from the root, beside the reference's -/
theorem gq_ok (hs : Sm l l') (g : FIN l' z res) : Rk 11 l ∧ (exC 11 l ([], 0, 0, 0, 0)).2.1.length ≤ 1024 ∧ ntI (exC 11 l ([], 0, 0, 0, 0)).2 = rNod z ∧ (exC 11 l ([], 0, 0, 0, 0)).2.2.1 = nI (rMany z true) ∧ (exC 11 l ([], 0, 0, 0, 0)).2.2.2.1 = nI (rMany z false) ∧ ∃ d, (exC 11 l ([], 0, 0, 0, 0)).1 = nI d ∧ DpR (nvR l' + 1) l' d := by
  have nv := nv_le l'
  have g0 : GC ([], 0, 0, 0, 0) [] := ⟨⟨rfl, fun i hi => absurd hi (Nat.not_lt_zero _)⟩, List.nodup_nil, fun m hm => by cases hm⟩
  obtain ⟨N, d, q1, q2, q3, q4, q5, q6, q7, q8, q9⟩ := cdfs 11 l l' ([], 0, 0, 0, 0) [] (by omega) hs g0
  rw [List.nil_append] at q1 q6
  have mc : ∀ m, m ∈ N ↔ Rch ntR KdR l' m ∧ ntR m := fun m => ⟨fun hm => ⟨(q2 m hm).1, (q1.2.2 m hm).2.1⟩, fun hm => by
    rcases in_rch q1 q6 hm.1 with ⟨a, _⟩ | ⟨_, b, _⟩ | ⟨_, b⟩
    · exact absurd a hm.2.1
    · exact absurd b hm.2.2
    · exact b⟩
  have mr : ∀ m, m ∈ zT z ↔ Rch ntR KdR l' m ∧ ntR m := fun m => ⟨fun hm => ⟨(g.2.2.1 m hm).2.2, (g.2.2.1 m hm).2.1⟩, fun hm => by
    rcases fin_rch g hm.1 with ⟨a, _⟩ | ⟨_, b, _⟩ | ⟨_, b⟩
    · exact absurd a hm.2.1
    · exact absurd b hm.2.2
    · exact b⟩
  have pm : N.Perm (zT z) := (List.perm_ext_iff_of_nodup q1.2.1 g.1).mpr (fun m => (mc m).trans (mr m).symm)
  have eD : cnD N = cnD (zT z) := pm.countP_eq _
  have eA : cnA N = cnA (zT z) := pm.countP_eq _
  have me := many_eq g
  have z0 : ∀ x : Int32, (0 : Int32) + x = x := Int32.zero_add
  replace q3 : (exC 11 l ([], 0, 0, 0, 0)).2.2.1 = nI (cnD N) := q3.trans (z0 _)
  replace q4 : (exC 11 l ([], 0, 0, 0, 0)).2.2.2.1 = nI (cnA N) := q4.trans (z0 _)
  have fH : (if (exC 11 l ([], 0, 0, 0, 0)).2.2.2.2.1 = 0 then (0 : Int32) else 1) = if zH z = 0 then 0 else 1 := by
    by_cases r : Rch ntR KdR l' []
    · have h1 : (exC 11 l ([], 0, 0, 0, 0)).2.2.2.2.1 = 1 := by
        rcases in_rch q1 q6 r with ⟨_, a⟩ | ⟨a, _⟩ | ⟨a, _⟩
        · exact a
        · exact absurd rfl a
        · exact absurd rfl a.1
      have h2 : zH z = 1 := by
        rcases fin_rch g r with ⟨_, a⟩ | ⟨a, _⟩ | ⟨a, _⟩
        · exact a
        · exact absurd rfl a
        · exact absurd rfl a.1
      rw [h1, h2]
    · have h1 : (exC 11 l ([], 0, 0, 0, 0)).2.2.2.2.1 = 0 := by
        rcases q5.1 with a | ⟨_, a⟩
        · exact a
        · exact absurd a r
      have h2 : zH z = 0 := by
        rcases g.2.2.2.2.1 with a | ⟨_, a⟩
        · exact a
        · exact absurd a r
      rw [h1, h2]
  have fF : (if (exC 11 l ([], 0, 0, 0, 0)).2.2.2.2.2 = 0 then (0 : Int32) else 1) = if zF z = 0 then 0 else 1 := by
    by_cases r : ∃ m, Rch ntR KdR l' m ∧ m ≠ [] ∧ m.getD 0 0 = 0
    · obtain ⟨m, r1, r2, r3⟩ := r
      have h1 : (exC 11 l ([], 0, 0, 0, 0)).2.2.2.2.2 = 1 := by
        rcases in_rch q1 q6 r1 with ⟨a, _⟩ | ⟨_, _, a⟩ | ⟨a, _⟩
        · exact absurd a r2
        · exact a
        · exact absurd r3 a.2
      have h2 : zF z = 1 := by
        rcases fin_rch g r1 with ⟨a, _⟩ | ⟨_, _, a⟩ | ⟨a, _⟩
        · exact absurd a r2
        · exact a
        · exact absurd r3 a.2
      rw [h1, h2]
    · have h1 : (exC 11 l ([], 0, 0, 0, 0)).2.2.2.2.2 = 0 := by
        rcases q5.2.1 with a | ⟨_, a⟩
        · exact a
        · exact absurd a r
      have h2 : zF z = 0 := by
        rcases g.2.2.2.2.2.1 with a | ⟨_, a⟩
        · exact a
        · exact absurd a r
      rw [h1, h2]
  refine ⟨rk_ok 11 l l' (by omega) hs, ?_, ?_, by rw [q3, eD, me.1], by rw [q4, eA, me.2], d, q7, q9⟩
  · rw [q1.1.1, pm.length_eq]
    have := g.2.1
    omega
  · unfold ntI rNod
    rw [fH, fF, q3, q4, nI_add, cn_len, pm.length_eq, Int32.add_assoc, Int32.add_assoc]
    exact congrArg _ (Int32.add_comm _ _)
end GQ
