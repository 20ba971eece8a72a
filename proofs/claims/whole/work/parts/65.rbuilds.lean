/-! the reference: builds -/
section RF
variable {h0 : Hp} {sm ln ic rt mm il sp rdm : Int32}
abbrev GZ (sm ln ic rt mm il sp rdm : Int32) (h0 h : Hp) (s : St) : Prop := GS sm ln ic rt mm il sp rdm h0 h (zT s) (zV s) (zC s) (zD s) (zW s) (zM s) (zN s) (zG s) (zA s) (zF s) (zH s)
abbrev enZ (sm ln ic rt mm il sp rdm : Int32) (h0 : Hp) (s : St) (L : Nat) (l : List Int32) (r : Option Value) (h' : Hp) : Prop := enP sm ln ic rt mm il sp rdm h0 (zT s) (zV s) (zC s) (zD s) (zW s) (zM s) (zN s) (zG s) (zA s) (zF s) (zH s) L l r h'
def dfsAt (sm ln ic rt mm il sp rdm : Int32) (h0 : Hp) (d m : Nat) : Prop := ∀ (l : List Int32) (L : Nat) (s : St) (Q : Option Value → Hp → Prop), nvR l ≤ m → pR L l s →
  (∀ (h' : Hp) (s' : St) (res : Nat), GZ sm ln ic rt mm il sp rdm h0 h' s' → dP L l s s' res → Rq mX9_builds (d + 3) 8 [.ref 43, .int (nI L), .int (nI res)] [] h' Q) →
  ∀ (r : Option Value) (h1 : Hp), enZ sm ln ic rt mm il sp rdm h0 s L l r h1 → ∃ x, r = some (.int x) ∧ Rq mX9_builds (d + 3) 8 [.ref 43, .int (nI L), .int x] [] h1 Q
theorem idOK_lt {s : St} {l : List Int32} {res : Nat} (x : idOK s l res) (hT : (zT s).length ≤ 1024) : res < 4096 := by
  rcases x with ⟨_, e, _⟩ | ⟨_, _, e, _⟩ | ⟨_, i, h1, _, e⟩ <;> omega
theorem b_go (d : Nat) {L : Nat} {h : Hp} {Q : Option Value → Hp → Prop} (hL : L < 26) (K : Rq mX9_builds d 64 [.ref 43, .int (nI L), .int (-1)] [] h Q) : Rq mX9_builds d 8 [.ref 43, .int (nI L), .int (-1)] [] h Q := by
  by_cases c : L = 0
  · subst c
    refine Rq_iload_n dX9_builds_8 rfl ?_
    refine Rq_if_gt_f 16 dX9_builds_9 (by decide) (by decide) ?_
    refine Rq_iload_n dX9_builds_12 rfl ?_
    refine Rq_if_ge_f 108 dX9_builds_13 (by decide) (by decide) ?_
    refine Rq_iload_n dX9_builds_16 rfl ?_
    refine Rq_if_lt_t 64 dX9_builds_17 (by decide) (by decide) ?_
    exact K
  · refine Rq_iload_n dX9_builds_8 rfl ?_
    refine Rq_if_gt_t 16 dX9_builds_9 (by decide) (nI_lt (a := 0) (by omega) (by omega)) ?_
    refine Rq_iload_n dX9_builds_16 rfl ?_
    refine Rq_if_lt_t 64 dX9_builds_17 (by decide) (by decide) ?_
    exact K
theorem b_kid (d : Nat) {m' L v a S : Nat} {l m : List Int32} {s0 s : St} {D : List (List Int32)} {h : Hp} {x2 : Int32} {Q : Option Value → Hp → Prop} (IH : dfsAt sm ln ic rt mm il sp rdm h0 d m') (p0 : pR L l s0) (hn : ntR l) (hm : nvR m ≤ m') (x : IPI L l s0 v s D a S) (hk : KdR l m) (lv : Lv (zW s) (zM s) (L + 1) m) (g : GZ sm ln ic rt mm il sp rdm h0 h s) (hb : (zT s).length + f2 (nvR m) ≤ 1023)
    (K : ∀ (h' : Hp) (s' : St) (dd : Nat), GZ sm ln ic rt mm il sp rdm h0 h' s' → IPI L l s0 v s' (m :: D) (max a dd) (S + f2 (nvR m)) → zG s' L = zG s L → zC s' ((zT s0).length + 2) = zC s ((zT s0).length + 2) → Rq mX9_builds (d + 3) 8 [.ref 43, .int (nI L), .int (-1)] [] h' Q) :
    Rq mX9_builds (d + 3) 72 [.ref 43, .int (nI L), .int x2] [] h Q := by
  obtain ⟨pv, plv, pl, pb, pn, pi, pd0, pd1⟩ := p0
  obtain ⟨km, kn⟩ := kd_nv pv hn hk
  have hL : L ≤ 10 := by omega
  have x0 := x
  obtain ⟨⟨N0, t1, t2, t3⟩, xn, x3, x4, x5, x6, x7, x8, x9, x10, x11, x12, x13, x14⟩ := x
  have len : (zT s).length = (zT s0).length + 1 + N0.length := by rw [t1, List.length_append, List.length_cons]; omega
  have gi : (zT s).getD (zT s0).length [] = l := by
    rw [t1, List.getD_eq_getElem?_getD, List.getElem?_append_right (Nat.le_refl _)]
    simp
  have pk : pR (L + 1) m s := by
    refine ⟨km, lv, by omega, hb, xn, fun i hi => ?_, (x3 0 (by omega)).2.2.trans pd0, (x3 1 (by omega)).2.2.trans pd1⟩
    rcases Nat.lt_trichotomy i (zT s0).length with c | c | c
    · have e : (zT s).getD i [] = (zT s0).getD i [] := by rw [t1]; exact getD_app c
      rw [e]
      obtain ⟨q1, q2, q3⟩ := pi i c
      refine ⟨q1, q2, ?_⟩
      rcases q3 with q3 | q3
      · obtain ⟨w1, w2, w3⟩ := x3 (i + 2) (by omega)
        exact Or.inl (nOK_mono t1 x12.2.2.1 x12.2.2.2 c w1 w2 w3 q3)
      · exact Or.inr (by omega)
    · subst c
      rw [gi]
      exact ⟨pv, hn, Or.inr kn⟩
    · have hm : (zT s).getD i [] ∈ N0 := by
        rw [t1, List.getD_eq_getElem?_getD, List.getElem?_append_right (by omega), show i - (zT s0).length = (i - (zT s0).length - 1) + 1 by omega, List.getElem?_cons_succ, List.getElem?_eq_getElem (by omega)]
        exact List.getElem_mem _
      obtain ⟨q1, q2, _⟩ := t3 _ hm
      exact ⟨q1, q2, Or.inl (x5 i c hi)⟩
  have g0 := g
  obtain ⟨-, -, -, -, -, k43, -⟩ := g
  refine Rq_iinc [_, _, _] (1) dX9_builds_72 rfl (by decide) rfl rfl rfl ?_
  refine Rq_aload_n dX9_builds_75 rfl ?_
  refine Rq_iload_n dX9_builds_76 rfl ?_
  rw [nI_1]
  refine Rq_callVq [_] dX9_builds_77 clX9_151 rfl k43 (rp_enters (d + 0) (L := L + 1) (l := m) (by omega) km.2.1 lv (by omega) g0) rfl rfl rfl (fun rv h1 hq => ?_)
  have st := IH m (L + 1) s Q hm pk (fun h' s' res g' p' => ?_) rv h1 hq
  · obtain ⟨x, rfl, st⟩ := st
    refine Rq_istore_n [_, _, _] dX9_builds_80 rfl rfl rfl ?_
    refine Rq_goto 8 dX9_builds_81 (by decide) ?_
    exact st
  · obtain ⟨dd, hd1, hd2, hd3⟩ := p'.2.2.2.2.2.2.2.2.2
    have xk := IPI_kid pv hn x0 hk p' hd1 hd2 hd3
    have pa : zA s' L = nI a := (p'.2.2.2.2.2.2.1 L (by omega)).2.2.trans x10
    have pg : zG s' L = zG s L := (p'.2.2.2.2.2.2.1 L (by omega)).2.1
    have pc : zC s' ((zT s0).length + 2) = zC s ((zT s0).length + 2) := (p'.2.2.1 _ (by omega)).2.1
    have g1 := g'
    obtain ⟨-, B, Z, R, H, j43, nt, -, -, -, -, -, -, j52, -, -, -, -, -, -, j59⟩ := g'
    have rl := idOK_lt p'.2.2.2.2.2.2.2.2.1 nt.1
    have fin : ∀ q : Int32, q = nI (max a dd) → Rq mX9_builds (d + 3) 58 [.ref 43, .int (nI L), .int (nI res)] [.int q, .int (nI L), .ref 59] h' Q := by
      intro q hq
      refine Rq_iast L dX9_builds_58 j59 (by omega) (by decide) rfl ?_
      refine Rq_iconst (-1) dX9_builds_59 (by decide) ?_
      refine Rq_istore_n [_, _, _] dX9_builds_60 rfl rfl rfl ?_
      refine Rq_goto 8 dX9_builds_61 (by decide) ?_
      rw [hq]
      exact K _ _ dd (g1.da _) xk pg pc
    refine Rq_iload_n dX9_builds_8 rfl ?_
    refine Rq_if_gt_t 16 dX9_builds_9 (by decide) (nI_lt (a := 0) (by omega) (by omega)) ?_
    refine Rq_iload_n dX9_builds_16 rfl ?_
    refine Rq_if_lt_f 64 dX9_builds_17 (by decide) (nI_pos (by omega)) ?_
    refine Rq_iinc [_, _, _] (-1) dX9_builds_20 rfl (by decide) rfl rfl rfl ?_
    rw [pk_m1]
    refine Rq_aload_n dX9_builds_23 rfl ?_
    refine Rq_get dX9_builds_24 flX9_56 j43 rfl ?_
    refine Rq_iload_n dX9_builds_27 rfl ?_
    refine Rq_aload_n dX9_builds_28 rfl ?_
    refine Rq_get dX9_builds_29 flX9_34 j43 rfl ?_
    refine Rq_iload_n dX9_builds_32 rfl ?_
    by_cases c : dd ≤ a
    · refine Rq_iald res dX9_builds_33 j52 rl (by decide) rfl ?_
      refine Rq_aload_n dX9_builds_34 rfl ?_
      refine Rq_get dX9_builds_35 flX9_56 j43 rfl ?_
      refine Rq_iload_n dX9_builds_38 rfl ?_
      refine Rq_iald L dX9_builds_39 j59 (by omega) (by decide) rfl ?_
      refine Rq_icmp_le_t 52 dX9_builds_40 (by decide) (by rw [hd1, pa]; exact nI_le c (by omega)) ?_
      refine Rq_aload_n dX9_builds_52 rfl ?_
      refine Rq_get dX9_builds_53 flX9_56 j43 rfl ?_
      refine Rq_iload_n dX9_builds_56 rfl ?_
      refine Rq_iald L dX9_builds_57 j59 (by omega) (by decide) rfl ?_
      exact fin _ (by rw [pa, Nat.max_eq_left c])
    · refine Rq_iald res dX9_builds_33 j52 rl (by decide) rfl ?_
      refine Rq_aload_n dX9_builds_34 rfl ?_
      refine Rq_get dX9_builds_35 flX9_56 j43 rfl ?_
      refine Rq_iload_n dX9_builds_38 rfl ?_
      refine Rq_iald L dX9_builds_39 j59 (by omega) (by decide) rfl ?_
      refine Rq_icmp_le_f 52 dX9_builds_40 (by decide) (by rw [hd1, pa]; exact nI_ge (by omega) (by omega)) ?_
      refine Rq_aload_n dX9_builds_43 rfl ?_
      refine Rq_get dX9_builds_44 flX9_34 j43 rfl ?_
      refine Rq_iload_n dX9_builds_47 rfl ?_
      refine Rq_iald res dX9_builds_48 j52 rl (by decide) rfl ?_
      refine Rq_goto 58 dX9_builds_49 (by decide) ?_
      exact fin _ (by rw [hd1, Nat.max_eq_right (by omega)])
theorem b_fin (d : Nat) {L v a S c : Nat} {l : List Int32} {s0 s : St} {D : List (List Int32)} {h : Hp} {x2 : Int32} {Q : Option Value → Hp → Prop} (hL : L < 26) (pv : VR l) (hn : ntR l) (x : IPI L l s0 v s D a S) (hS : S + 1 ≤ f2 (nvR l)) (hv : dvR l v) (hc : zC s ((zT s0).length + 2) = nI c) (hct : CtR l c) (all : ∀ m, KdR l m → m ∈ D) (g : GZ sm ln ic rt mm il sp rdm h0 h s)
    (K : ∀ (h' : Hp) (s' : St) (res : Nat), GZ sm ln ic rt mm il sp rdm h0 h' s' → dP L l s0 s' res → Rq mX9_builds d 8 [.ref 43, .int (nI L), .int (nI res)] [] h' Q) :
    Rq mX9_builds d 84 [.ref 43, .int (nI L), .int x2] [] h Q := by
  have e := IPI_end pv hn x hS hv hc hct all
  have len : (zT s0).length < (zT s).length := by
    obtain ⟨⟨N0, t1, _⟩, _⟩ := x
    rw [t1, List.length_append, List.length_cons]
    omega
  have xN : zN s L = nI ((zT s0).length + 2) := x.2.2.2.2.2.2.2.2.1
  have xA : zA s L = nI a := x.2.2.2.2.2.2.2.2.2.1
  have g1 := g
  obtain ⟨-, B, Z, R, H, j43, nt, -, -, -, -, -, -, j52, -, -, -, -, j57, -, j59⟩ := g
  have tl := nt.1
  refine Rq_aload_n dX9_builds_84 rfl ?_
  refine Rq_get dX9_builds_85 flX9_50 j43 rfl ?_
  refine Rq_iload_n dX9_builds_88 rfl ?_
  refine Rq_iald L dX9_builds_89 j57 hL (by decide) rfl ?_
  rw [xN]
  refine Rq_istore_n [_, _, _] dX9_builds_90 rfl rfl rfl ?_
  refine Rq_aload_n dX9_builds_91 rfl ?_
  refine Rq_get dX9_builds_92 flX9_34 j43 rfl ?_
  refine Rq_iload_n dX9_builds_95 rfl ?_
  refine Rq_aload_n dX9_builds_96 rfl ?_
  refine Rq_get dX9_builds_97 flX9_56 j43 rfl ?_
  refine Rq_iload_n dX9_builds_100 rfl ?_
  refine Rq_iald L dX9_builds_101 j59 hL (by decide) rfl ?_
  rw [xA]
  refine Rq_iconst (1) dX9_builds_102 (by decide) ?_
  refine Rq_iadd dX9_builds_103 ?_
  rw [nI_1]
  refine Rq_iast ((zT s0).length + 2) dX9_builds_104 j52 (by omega) (by decide) rfl ?_
  refine Rq_goto 8 dX9_builds_105 (by decide) ?_
  exact K _ _ _ (g1.dx _) e
/-- the state with a new node for l -/
def stN (s : St) (L : Nat) (l : List Int32) (v : Nat) : St := (zT s ++ [l], upd (zV s) ((zT s).length + 2) (nI v), upd (zC s) ((zT s).length + 2) (if 0 < v then 1 else 0), zD s, zW s, zM s, upd (zN s) L (nI ((zT s).length + 2)), upd (zG s) L 0, upd (zA s) L 0, zF s, zH s)
theorem stN_len (s : St) (L : Nat) (l : List Int32) (v : Nat) : (zT (stN s L l v)).length = (zT s).length + 1 := by
  show (zT s ++ [l]).length = _
  rw [List.length_append, List.length_singleton]
theorem IPI_0 {L : Nat} {l : List Int32} {s : St} {v : Nat} (p : pR L l s) (hl : l ∉ zT s) : IPI L l s v (stN s L l v) [] 0 0 := by
  obtain ⟨pv, plv, pl, pb, pn, pi, pd0, pd1⟩ := p
  refine ⟨⟨[], rfl, Nat.le_refl _, fun m hm => by cases hm⟩, ?_, fun i hi => ?_, pk_us, fun i h1 h2 => ?_, fun _ _ => rfl, fun _ _ => rfl, fun j hj => ⟨?_, ?_, ?_⟩, pk_us, pk_us, Nat.zero_le _, ⟨Or.inl rfl, Or.inl rfl, id, id⟩, (fun m hm => by cases hm), Or.inl rfl⟩
  · refine List.nodup_append.mpr ⟨pn, List.nodup_cons.mpr ⟨by simp, List.nodup_nil⟩, fun a ha b hb => ?_⟩
    rw [List.mem_singleton.mp hb]
    intro e
    rw [e] at ha
    exact hl ha
  · exact ⟨pk_un (by omega), pk_un (by omega), rfl⟩
  · have := stN_len s L l v
    omega
  · exact pk_un (by omega)
  · exact pk_un (by omega)
  · exact pk_un (by omega)
/-- the state with a row at the next level -/
def stL (s : St) (W Mn C G : Nat → Int32) : St := (zT s, zV s, C, zD s, W, Mn, zN s, G, zA s, zF s, zH s)
theorem mv_L {L i : Nat} {s : St} {W Mn C G : Nat → Int32} {m : List Int32} (nx : nxL (zW s) (zM s) W Mn L m) (hC : ∀ j, j ≠ i + 2 → C j = zC s j) (hG : ∀ j, j < L → G j = zG s j) : mvS L i s (stL s W Mn C G) := ⟨rfl, rfl, hC, rfl, fun k hk => nx.2.1 k (by omega), fun j hj => nx.2.2 j (by omega), rfl, hG, rfl, rfl, rfl⟩
theorem b_dec (d : Nat) {m' L v : Nat} {l : List Int32} {s0 : St} {h : Hp} {Q : Option Value → Hp → Prop} (IH : dfsAt sm ln ic rt mm il sp rdm h0 d m') (p0 : pR L l s0) (hn : ntR l) (hm : nvR l ≤ m' + 1) (hl : l ∉ zT s0) (cc : conR l) (hv : v = (mfR l 10).1) (g : GZ sm ln ic rt mm il sp rdm h0 h (stN s0 L l v))
    (K : ∀ (h' : Hp) (s' : St) (res : Nat), GZ sm ln ic rt mm il sp rdm h0 h' s' → dP L l s0 s' res → Rq mX9_builds (d + 3) 8 [.ref 43, .int (nI L), .int (nI res)] [] h' Q) :
    Rq mX9_builds (d + 3) 8 [.ref 43, .int (nI L), .int (-1)] [] h Q := by
  have p1 := p0
  obtain ⟨pv, plv, pl, pb, pn, pi, pd0, pd1⟩ := p1
  have x0 := IPI_0 (v := v) p0 hl
  have hL : L ≤ 10 := by omega
  obtain ⟨w, hw, ew, how⟩ := mf_occ pv hn
  have v0 : 0 < v := by omega
  have v10 : v ≤ 10 := by omega
  have k0 : KdR l (resR (-nI v) l) := by rw [hv]; exact Or.inl ⟨cc, Or.inl rfl⟩
  have k1 : KdR l (resR (nI v) l) := by rw [hv]; exact Or.inl ⟨cc, Or.inr rfl⟩
  have n0 := (kd_nv pv hn k0).2
  have n1 := (kd_nv pv hn k1).2
  have b0 : f2 (nvR (resR (-nI v) l)) ≤ f2 (nvR l - 1) := f2_mono (by omega)
  have b1 : f2 (nvR (resR (nI v) l)) ≤ f2 (nvR l - 1) := f2_mono (by omega)
  have fs := f2_s (nvR l - 1)
  rw [show nvR l - 1 + 1 = nvR l by omega] at fs
  have tn := stN_len s0 L l v
  have g0 := g
  obtain ⟨-, -, -, -, -, k43, -⟩ := g
  refine b_go (d + 3) (by omega) ?_
  refine Rq_aload_n dX9_builds_64 rfl ?_
  refine Rq_iload_n dX9_builds_65 rfl ?_
  refine Rq_callVq [_] dX9_builds_66 clX9_154 rfl k43 (rp_deepD (d + 0) (gn := 0) (by omega) (show (zT s0).length < 1024 by omega) (x0.2.2.2.2.2.2.2.2.1) (x0.2.2.2.1) v0 v10 pk_us (by decide) plv g0) rfl rfl rfl (fun rv h1 hq => ?_)
  obtain ⟨rfl, W1, M1, nx1, g1⟩ := hq
  rw [if_pos rfl] at nx1
  refine Rq_if_eq_f 84 dX9_builds_69 (by decide) (by decide) ?_
  have y1 := IPI_mv x0 (s1 := stL (stN s0 L l v) W1 M1 (zC (stN s0 L l v)) (upd (zG (stN s0 L l v)) L (nI 1))) (mv_L nx1 (fun _ _ => rfl) (fun j hj => pk_un (by omega)))
  refine b_kid d IH p0 hn (by omega) y1 k0 nx1.1 g1 (by show (zT (stN s0 L l v)).length + _ ≤ _; omega) (fun h2 s2 d2 g2 z2 eg2 ec2 => ?_)
  refine b_go (d + 3) (by omega) ?_
  have tl2 : (zT s2).length ≤ (zT s0).length + 1 + f2 (nvR (resR (-nI v) l)) := by
    obtain ⟨⟨N, e1, e2, _⟩, _⟩ := z2
    rw [e1, List.length_append, List.length_cons]
    omega
  have lv2 : Lv (zW s2) (zM s2) L l := plv.keep (z2.2.2.2.2.2.2.1 L (Nat.le_refl _)) (fun k _ hk => z2.2.2.2.2.2.1 k (by omega))
  have g2' := g2
  obtain ⟨-, -, -, -, -, k43, -⟩ := g2
  refine Rq_aload_n dX9_builds_64 rfl ?_
  refine Rq_iload_n dX9_builds_65 rfl ?_
  refine Rq_callVq [_] dX9_builds_66 clX9_154 rfl k43 (rp_deepD (d + 0) (gn := 1) (by omega) (show (zT s0).length < 1024 by omega) (z2.2.2.2.2.2.2.2.2.1) (z2.2.2.2.1) v0 v10 (eg2.trans pk_us) (by decide) lv2 g2') rfl rfl rfl (fun rv h3 hq => ?_)
  obtain ⟨rfl, W3, M3, nx3, g3⟩ := hq
  rw [if_neg (by decide)] at nx3
  refine Rq_if_eq_f 84 dX9_builds_69 (by decide) (by decide) ?_
  have y3 := IPI_mv z2 (s1 := stL s2 W3 M3 (zC s2) (upd (zG s2) L (nI 2))) (mv_L nx3 (fun _ _ => rfl) (fun j hj => pk_un (by omega)))
  refine b_kid d IH p0 hn (by omega) y3 k1 nx3.1 g3 (by show (zT s2).length + _ ≤ _; omega) (fun h4 s4 d4 g4 z4 eg4 ec4 => ?_)
  refine b_go (d + 3) (by omega) ?_
  have g4' := g4
  obtain ⟨-, -, -, -, -, k43, -⟩ := g4
  refine Rq_aload_n dX9_builds_64 rfl ?_
  refine Rq_iload_n dX9_builds_65 rfl ?_
  refine Rq_callV [_] dX9_builds_66 clX9_154 rfl k43 (rp_deep2 (d + 2) (by omega) (show (zT s0).length < 1024 by omega) (z4.2.2.2.2.2.2.2.2.1) (z4.2.2.2.1) v0 v10 (eg4.trans pk_us) g4') rfl rfl rfl ?_
  refine Rq_if_eq_t 84 dX9_builds_69 (by decide) rfl ?_
  refine b_fin (d + 3) (c := 1) (by omega) pv hn z4 (by omega) (Or.inl ⟨cc, hv⟩) ?_ (Or.inl ⟨cc, rfl⟩) (fun m hm => ?_) g4' K
  · rw [ec4]
    show zC s2 _ = _
    rw [ec2]
    show upd (zC s0) _ _ _ = _
    rw [pk_us, if_pos v0]
    rfl
  · rcases hm with ⟨_, hm⟩ | ⟨hc, _⟩
    · rw [← hv] at hm
      rcases hm with rfl | rfl
      · exact List.mem_cons_of_mem _ List.mem_cons_self
      · exact List.mem_cons_self
    · exact absurd cc hc
end RF
