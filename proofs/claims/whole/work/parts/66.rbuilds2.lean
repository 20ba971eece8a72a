/-! the reference: builds, parts; the whole search -/
section RF
variable {h0 : Hp} {sm ln ic rt mm il sp rdm : Int32}
/-- how many nodes the parts done may have made -/
def bI (K : List (List Int32)) (S A : Nat) : Prop := (K = [] ∧ S = 0) ∨ (K.length = 1 ∧ 0 < A ∧ S ≤ f2 A) ∨ (2 ≤ K.length ∧ S + 1 ≤ f2 A)
theorem bI_s {K : List (List Int32)} {S A b : Nat} {m : List Int32} (x : bI K S A) (hb : 0 < b) (h0 : K = [] → A = 0) : bI (m :: K) (S + f2 b) (A + b) := by
  rcases x with ⟨rfl, rfl⟩ | ⟨h1, h2, h3⟩ | ⟨h1, h2⟩
  · refine Or.inr (Or.inl ⟨rfl, by omega, ?_⟩)
    rw [h0 rfl, Nat.zero_add, Nat.zero_add]
    exact Nat.le_refl _
  · have := f2_add1 h2 hb
    exact Or.inr (Or.inr ⟨by rw [List.length_cons]; omega, by omega⟩)
  · have := f2_add A b
    exact Or.inr (Or.inr ⟨by rw [List.length_cons]; omega, by omega⟩)
theorem bI_lt {K : List (List Int32)} {S A b n : Nat} (x : bI K S A) (hb : 0 < b) (hn : b < n) (hA : A + b ≤ n) : S + 1 + f2 b ≤ f2 n := by
  rcases x with ⟨rfl, rfl⟩ | ⟨h1, h2, h3⟩ | ⟨h1, h2⟩
  · have h1 := f2_s (n - 1)
    have h2 := f2_mono (show b ≤ n - 1 by omega)
    rw [show n - 1 + 1 = n by omega] at h1
    omega
  · have h4 := f2_add1 h2 hb
    have h5 := f2_mono hA
    omega
  · have h4 := f2_add A b
    have h5 := f2_mono hA
    omega
theorem full_x {l : List Int32} {x : Int32} {K : List (List Int32)} (hl : l.length ≤ 16) (a : andI l x K) (h : ∀ k, k < l.length → bt x k = true) : x = (1 : Int32) <<< (nI l.length &&& 31) - 1 := by
  apply b_ext
  intro k hk
  rw [low_mask _ (by omega) k hk]
  by_cases c : k < l.length
  · rw [decide_eq_true c]; exact h k c
  · rw [decide_eq_false c]
    exact ts_nt (fun z => c (a.1 k hk z))
theorem two_parts {l : List Int32} {x : Int32} {K : List (List Int32)} (hl : l.length ≤ 16) (l0 : 0 < l.length) (nd : l.Nodup) (a : andI l x K) (h : ∀ k, k < l.length → bt x k = true) (hc : ¬ conR l) : 2 ≤ K.length := by
  apply Decidable.byContradiction
  intro hx
  obtain ⟨k0, y0, a1, a2, a3, a4, _⟩ := a.2.2.2 0 (by decide) (h 0 l0)
  match K, hx, a, a4 with
  | [], _, _, a4 => cases a4
  | [m], _, a, a4 =>
    rw [List.mem_singleton] at a4
    apply hc
    intro j hj
    obtain ⟨k1, y1, b1, b2, b3, b4, _⟩ := a.2.2.2 j (by omega) (h j hj)
    rw [List.mem_singleton, ← a4] at b4
    have hm : l.getD j 0 ∈ prtR l y1 := prtR_mem.mpr ⟨j, hj, b3, rfl⟩
    rw [b4] at hm
    obtain ⟨q, q1, q2, q3⟩ := prtR_mem.mp hm
    have e := nd_idx nd hj q1 q3
    subst e
    have c1 := ((a2 j (by omega)).mp q2).2
    have c0 := ((a2 0 (by decide)).mp a3).2
    exact (c0.symm a1).trans c1
  | m :: m2 :: K, hx, _, _ => simp at hx
theorem b_par (d : Nat) {m' L : Nat} {l : List Int32} {s0 : St} {Q : Option Value → Hp → Prop} (IH : dfsAt sm ln ic rt mm il sp rdm h0 d m') (p0 : pR L l s0) (hn : ntR l) (hm : nvR l ≤ m' + 1) (cc : ¬ conR l)
    (K : ∀ (h' : Hp) (s' : St) (res : Nat), GZ sm ln ic rt mm il sp rdm h0 h' s' → dP L l s0 s' res → Rq mX9_builds (d + 3) 8 [.ref 43, .int (nI L), .int (nI res)] [] h' Q) :
    ∀ (f : Nat) (h : Hp) (s : St) (x : Int32) (D : List (List Int32)) (a S : Nat), fb_ct (fun k => !bt x k) l.length ≤ f → andI l x D → bI D S (nvM l x) → IPI L l s0 0 s D a S → zG s L = x → zC s ((zT s0).length + 2) = nI D.length → GZ sm ln ic rt mm il sp rdm h0 h s →
    Rq mX9_builds (d + 3) 8 [.ref 43, .int (nI L), .int (-1)] [] h Q := by
  have p1 := p0
  obtain ⟨pv, plv, pl, pb, pn, pi, pd0, pd1⟩ := p1
  have l16 := pv.1
  have l0 : 0 < l.length := List.length_pos_iff.mpr hn.1
  have nd := srt_nodup pv.2.2
  have hL : L ≤ 10 := by omega
  have endd : ∀ (h : Hp) (s : St) (x : Int32) (D : List (List Int32)) (a S : Nat), andI l x D → bI D S (nvM l x) → IPI L l s0 0 s D a S → zG s L = x → zC s ((zT s0).length + 2) = nI D.length → GZ sm ln ic rt mm il sp rdm h0 h s → (∀ k, k < l.length → bt x k = true) → Rq mX9_builds (d + 3) 8 [.ref 43, .int (nI L), .int (-1)] [] h Q := by
    intro h s x D a S ai bi z eg ec g hall
    have hx := full_x l16 ai hall
    have h2 := two_parts l16 l0 nd ai hall cc
    have hS : S + 1 ≤ f2 (nvR l) := by
      rcases bi with ⟨e, _⟩ | ⟨e, _⟩ | ⟨_, e⟩
      · rw [e] at h2; simp at h2
      · omega
      · have := f2_mono (nvM_le l x); omega
    have lv : Lv (zW s) (zM s) L l := plv.keep (z.2.2.2.2.2.2.1 L (Nat.le_refl _)) (fun k _ hk => z.2.2.2.2.2.1 k (by omega))
    have tl : (zT s0).length < 1024 := by have := f2_mono (show 0 ≤ nvR l by omega); omega
    refine b_go (d + 3) (by omega) ?_
    have g' := g
    obtain ⟨-, -, -, -, -, k43, -⟩ := g
    refine Rq_aload_n dX9_builds_64 rfl ?_
    refine Rq_iload_n dX9_builds_65 rfl ?_
    refine Rq_callV [_] dX9_builds_66 clX9_154 rfl k43 (rp_deepE (d + 2) (by omega) tl (z.2.2.2.2.2.2.2.2.1) (z.2.2.2.1) (eg.trans hx) lv g') rfl rfl rfl ?_
    refine Rq_if_eq_t 84 dX9_builds_69 (by decide) rfl ?_
    exact b_fin (d + 3) (c := D.length) (by omega) pv hn z hS (Or.inr ⟨cc, rfl⟩) ec (Or.inr ⟨cc, D, ai.2.1, andI_end l16 ai hx cc, rfl⟩) (fun m hm => (andI_end l16 ai hx cc m).mpr hm) g' K
  intro f
  induction f with
  | zero =>
    intro h s x D a S hf ai bi z eg ec g
    refine endd h s x D a S ai bi z eg ec g (fun k hk => ?_)
    have := fb_ct_zero.mp (show fb_ct (fun k => !bt x k) l.length = 0 by omega) k hk
    simpa using this
  | succ f ih =>
    intro h s x D a S hf ai bi z eg ec g
    by_cases call : ∀ k, k < l.length → bt x k = true
    · exact endd h s x D a S ai bi z eg ec g call
    · have ⟨q, hq⟩ := Classical.not_forall.mp call
      have ⟨hq1, hq2⟩ := Classical.not_imp.mp hq
      obtain ⟨k0, hk0, hk1, hk2⟩ := fb_first (p := fun k => bt x k = false) ⟨q, hq1, ts_nt hq2⟩
      have tl : (zT s0).length < 1024 := by omega
      have lv : Lv (zW s) (zM s) L l := plv.keep (z.2.2.2.2.2.2.1 L (Nat.le_refl _)) (fun k _ hk => z.2.2.2.2.2.1 k (by omega))
      refine b_go (d + 3) (by omega) ?_
      have g' := g
      obtain ⟨-, -, -, -, -, k43, -⟩ := g
      refine Rq_aload_n dX9_builds_64 rfl ?_
      refine Rq_iload_n dX9_builds_65 rfl ?_
      refine Rq_callVq [_] dX9_builds_66 clX9_154 rfl k43 (rp_deepP (d + 0) (k0 := k0) (x := x) (by omega) tl (z.2.2.2.2.2.2.2.2.1) (z.2.2.2.1) eg hk0 hk1 (fun k hk => ts_nf (hk2 k hk)) lv g') rfl rfl rfl (fun rv h1 hq => ?_)
      obtain ⟨rfl, y, W1, M1, cy, nx, g1⟩ := hq
      refine Rq_if_eq_f 84 dX9_builds_69 (by decide) (by decide) ?_
      have kd : KdR l (prtR l y) := Or.inr ⟨cc, k0, y, hk0, cy, rfl⟩
      have kn := (kd_nv pv hn kd).2
      have pn2 := part_nv pv hn cc hk0 cy
      have av := andI_nv l16 ai hk0 hk1 cy
      have an := nvM_le l (x ||| y)
      have as := andI_s l16 nd ai hk0 hk1 cy
      have e0 : D = [] → nvM l x = 0 := by
        intro e
        rw [e] at ai
        have : x = 0 := b_ext (fun k hk => by
          rw [b_0]
          refine ts_nt (fun w => ?_)
          obtain ⟨_, _, _, _, _, w4, _⟩ := ai.2.2.2 k hk w
          cases w4)
        rw [this, nvM_0]
      have bl := bI_lt bi pn2.2 pn2.1 (by omega)
      have bs : bI (prtR l y :: D) (S + f2 (nvR (prtR l y))) (nvM l (x ||| y)) := by rw [av, nv_prt]; exact bI_s bi pn2.2 e0
      have tls : (zT s).length ≤ (zT s0).length + 1 + S := by
        obtain ⟨⟨N, e1, e2, _⟩, _⟩ := z
        rw [e1, List.length_append, List.length_cons]
        omega
      have y1 := IPI_mv z (s1 := stL s W1 M1 (upd (zC s) ((zT s0).length + 2) (zC s ((zT s0).length + 2) + 1)) (upd (zG s) L (x ||| y))) (mv_L nx (fun j hj => pk_un hj) (fun j hj => pk_un (by omega)))
      refine b_kid d IH p0 hn (by omega) y1 kd nx.1 g1 (by rw [nv_prt]; show (zT s).length + _ ≤ _; omega) (fun h2 s2 d2 g2 z2 eg2 ec2 => ?_)
      refine ih h2 s2 (x ||| y) (prtR l y :: D) _ _ ?_ as bs z2 (eg2.trans pk_us) ?_ g2
      · have : fb_ct (fun k => !bt (x ||| y) k) l.length < fb_ct (fun k => !bt x k) l.length := ct_lt hk0 (by rw [b_or, (cy k0 (by omega)).mpr ⟨hk0, CC.rf⟩, Bool.or_true]; rfl) (by rw [hk1]; rfl) (fun k hk w => by
          rw [b_or] at w
          cases e : bt x k with
          | false => rfl
          | true => rw [e] at w; cases w)
        omega
      · rw [ec2]
        show upd (zC s) _ _ _ = _
        rw [pk_us, ec, nI_1, List.length_cons]
theorem dfs (d : Nat) : ∀ m, dfsAt sm ln ic rt mm il sp rdm h0 d m := by
  have triv : ∀ (l : List Int32) (L : Nat) (s : St) (Q : Option Value → Hp → Prop), pR L l s →
      (∀ (h' : Hp) (s' : St) (res : Nat), GZ sm ln ic rt mm il sp rdm h0 h' s' → dP L l s s' res → Rq mX9_builds (d + 3) 8 [.ref 43, .int (nI L), .int (nI res)] [] h' Q) →
      (ntR l → l ∉ zT s → ∀ v h1, dvR l v → GZ sm ln ic rt mm il sp rdm h0 h1 (stN s L l v) → Rq mX9_builds (d + 3) 8 [.ref 43, .int (nI L), .int (-1)] [] h1 Q) →
      ∀ (r : Option Value) (h1 : Hp), enZ sm ln ic rt mm il sp rdm h0 s L l r h1 → ∃ x, r = some (.int x) ∧ Rq mX9_builds (d + 3) 8 [.ref 43, .int (nI L), .int x] [] h1 Q := by
    intro l L s Q p K KN r h1 e
    have p0 := p
    obtain ⟨pv, plv, pl, pb, pn, pi, pd0, pd1⟩ := p
    rcases e with ⟨rfl, rfl, g⟩ | ⟨e1, e2, rfl, g⟩ | ⟨e1, e2, i, hi, e3, rfl, g⟩ | ⟨e1, e2, e3, rfl, v, hv, g⟩
    · refine ⟨_, rfl, K h1 (zT s, zV s, zC s, zD s, zW s, zM s, zN s, zG s, zA s, zF s, 1) 1 g ⟨⟨[], by show zT s = _; rw [List.append_nil], Nat.zero_le _, fun m hm => by cases hm⟩, pn, fun _ _ => ⟨rfl, rfl, rfl⟩, fun i h1 h2 => ?_, fun _ _ => rfl, fun _ _ => rfl, fun _ _ => ⟨rfl, rfl, rfl⟩, ⟨Or.inr ⟨rfl, Rch.rf⟩, Or.inl rfl, fun _ => rfl, id⟩, Or.inl ⟨rfl, rfl, rfl⟩, 0, pd1, Nat.zero_le _, Or.inl ⟨fun z => z.1 rfl, rfl⟩⟩⟩
      have : i < (zT s).length := h2
      omega
    · refine ⟨_, rfl, K h1 (zT s, zV s, zC s, zD s, zW s, zM s, zN s, zG s, zA s, 1, zH s) 0 g ⟨⟨[], by show zT s = _; rw [List.append_nil], Nat.zero_le _, fun m hm => by cases hm⟩, pn, fun _ _ => ⟨rfl, rfl, rfl⟩, fun i h1 h2 => ?_, fun _ _ => rfl, fun _ _ => rfl, fun _ _ => ⟨rfl, rfl, rfl⟩, ⟨Or.inl rfl, Or.inr ⟨rfl, l, Rch.rf, e1, e2⟩, id, fun _ => rfl⟩, Or.inr (Or.inl ⟨e1, e2, rfl, rfl⟩), 0, pd0, Nat.zero_le _, Or.inl ⟨fun z => z.2 e2, rfl⟩⟩⟩
      have : i < (zT s).length := h2
      omega
    · obtain ⟨q1, q2, q3⟩ := pi i hi
      rw [e3] at q3
      have ok : nOK s i := q3.resolve_right (Nat.lt_irrefl _)
      obtain ⟨v, dd, c, y1, y2, y3, y4, y5, y6, y7, y8⟩ := ok
      rw [e3] at y6 y7
      refine ⟨_, rfl, K h1 s (i + 2) g ⟨⟨[], by rw [List.append_nil], Nat.zero_le _, fun m hm => by cases hm⟩, pn, fun _ _ => ⟨rfl, rfl, rfl⟩, fun i h1 h2 => by omega, fun _ _ => rfl, fun _ _ => rfl, fun _ _ => ⟨rfl, rfl, rfl⟩, ⟨Or.inl rfl, Or.inl rfl, id, id⟩, Or.inr (Or.inr ⟨⟨e1, e2⟩, i, hi, e3, rfl⟩), dd, y5, y7, y6⟩⟩
    · exact ⟨_, rfl, KN ⟨e1, e2⟩ e3 v h1 hv g⟩
  intro m
  induction m with
  | zero =>
    intro l L s Q hm p K r h1 e
    refine triv l L s Q p K (fun hn _ v h1 hv g => ?_) r h1 e
    exfalso
    obtain ⟨w, hw, _, how⟩ := mf_occ p.1 hn
    have : 0 < nvR l := fb_ct_pos.mpr ⟨w, hw, how⟩
    omega
  | succ m ih =>
    intro l L s Q hm p K r h1 e
    refine triv l L s Q p K (fun hn hl v h1 hv g => ?_) r h1 e
    rcases hv with ⟨cc, ev⟩ | ⟨cc, rfl⟩
    · exact b_dec d ih p hn hm hl cc ev g K
    · refine b_par d ih p hn hm cc K l.length h1 (stN s L l 0) 0 [] 0 0 (fb_ct_le _ _) (andI_0 l) (Or.inl ⟨rfl, rfl⟩) (IPI_0 p hl) pk_us ?_ g
      show upd (zC s) _ _ _ = _
      rw [pk_us, if_neg (by decide)]
      rfl
/-- builds: the search from the row at level 0 -/
theorem rp_builds (d : Nat) {l : List Int32} {s : St} {h : Hp} (p : pR 0 l s) (g : GZ sm ln ic rt mm il sp rdm h0 h s) : Mq mX9_builds (d + 3) [.ref 43] h (fun r h' => ∃ res s', r = some (.int (nI res)) ∧ GZ sm ln ic rt mm il sp rdm h0 h' s' ∧ dP 0 l s s' res) := by
  have g0 := g
  obtain ⟨-, -, -, -, -, k43, -⟩ := g
  have p0 := p
  obtain ⟨pv, plv, pl, pb, pn, pi, pd0, pd1⟩ := p0
  refine Mq_of [_, _, _] (by decide +kernel) rfl rfl ?_
  refine Rq_iconst (0) dX9_builds_0 (by decide) ?_
  refine Rq_istore_n [_, _, _] dX9_builds_1 rfl rfl rfl ?_
  refine Rq_aload_n dX9_builds_2 rfl ?_
  refine Rq_iconst (0) dX9_builds_3 (by decide) ?_
  refine Rq_callVq [_] dX9_builds_4 clX9_151 rfl k43 (rp_enters (d + 0) (L := 0) (l := l) (by decide) pv.2.1 plv (by omega) g0) rfl rfl rfl (fun rv h1 hq => ?_)
  have st := dfs d 10 l 0 s (fun r h' => ∃ res s', r = some (.int (nI res)) ∧ GZ sm ln ic rt mm il sp rdm h0 h' s' ∧ dP 0 l s s' res) (nv_le l) p (fun h' s' res g' p' => ?_) rv h1 hq
  · obtain ⟨x, rfl, st⟩ := st
    refine Rq_istore_n [_, _, _] dX9_builds_7 rfl rfl rfl ?_
    exact st
  · have nt := g'
    obtain ⟨-, B, Z, R, H, -, nt, -⟩ := nt
    have rl := idOK_lt p'.2.2.2.2.2.2.2.2.1 nt.1
    refine Rq_iload_n dX9_builds_8 rfl ?_
    refine Rq_if_gt_f 16 dX9_builds_9 (by decide) (by decide) ?_
    refine Rq_iload_n dX9_builds_12 rfl ?_
    refine Rq_if_ge_t 108 dX9_builds_13 (by decide) (nI_pos' (by omega)) ?_
    refine Rq_iload_n dX9_builds_108 rfl ?_
    refine Rq_iret dX9_builds_109 rfl ?_
    exact ⟨res, s', rfl, g', p'⟩
end RF
