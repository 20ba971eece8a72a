/-! CnfCompiler's methods: parse, digest -/
theorem gTok_room {full : Int32 → Bool} {bit vars : Int32 → Int32} {n : Nat} {t : Nat → Int32} {room p k p' : Nat} {c c' : Int32} {b : Bool} (hk2 : ¬ c = 0 → k < room) (e : gTok full bit vars n t room p k c = .inr (p', c', b)) :
    (b = false → ¬ c' = 0 → k < room) ∧ (b = true → c' = 0 ∧ k < room) := by
  unfold gTok at e
  split at e
  · cases e
    exact ⟨fun _ => hk2, fun h => by cases h⟩
  · split at e
    · split at e
      · cases e
      · next z =>
        cases e
        exact ⟨(fun h => by cases h), fun _ => ⟨rfl, hk2 z⟩⟩
    · split at e
      · split at e
        · cases e
        · next hf =>
          cases hg : gLit bit vars n t p c with
          | inl e' => rw [hg] at e; cases e
          | inr w =>
            obtain ⟨p1, c1⟩ := w
            rw [hg] at e
            cases e
            refine ⟨fun _ _ => ?_, fun h => by cases h⟩
            by_cases z : c = 0
            · have : ¬ room ≤ k := fun q => hf (Or.inr ⟨z, q⟩)
              omega
            · exact hk2 z
      · cases e
theorem gLit_err {bit vars : Int32 → Int32} {n : Nat} {t : Nat → Int32} {p e : Nat} {c : Int32} (h : gLit bit vars n t p c = .inl e) : e ≤ p + 3 := by
  unfold gLit at h
  generalize hq : (if t p = 45 then p + 1 else p) = q at h
  have hq2 : q ≤ p + 1 := by rw [← hq]; split <;> omega
  split at h
  · cases h; omega
  · split at h
    · cases h; omega
    · split at h
      · generalize (if t p = 45 then -numv t q (cntD n t q) else numv t q (cntD n t q)) = v at h
        split at h
        · cases h
        · cases h; omega
      · cases h; omega
theorem gTok_err {full : Int32 → Bool} {bit vars : Int32 → Int32} {n : Nat} {t : Nat → Int32} {room p k e : Nat} {c : Int32} (h : gTok full bit vars n t room p k c = .inl e) : e ≤ p + 3 := by
  unfold gTok at h
  split at h
  · cases h
  · split at h
    · split at h
      · cases h; omega
      · cases h
    · split at h
      · split at h
        · cases h; omega
        · cases hg : gLit bit vars n t p c with
          | inl e' => rw [hg] at h; cases h; exact gLit_err hg
          | inr w => rw [hg] at h; cases h
      · cases h; omega
theorem gRun_err {full : Int32 → Bool} {bit vars : Int32 → Int32} {n : Nat} {t : Nat → Int32} {room : Nat} : ∀ (f p k : Nat) (c : Int32) (rc : Nat → Int32) (e : Nat), gRun full bit vars n t room f p k c rc = .inl e → e ≤ n + 3 := by
  intro f
  induction f with
  | zero => intro p k c rc e h; cases h
  | succ f ih =>
    intro p k c rc e h
    unfold gRun at h
    split at h
    · next hp =>
      cases hg : gTok full bit vars n t room p k c with
      | inl e' => rw [hg] at h; cases h; have := gTok_err hg; omega
      | inr w =>
        obtain ⟨p', c', b⟩ := w
        rw [hg] at h
        cases b with
        | false => exact ih _ _ _ _ _ h
        | true => exact ih _ _ _ _ _ h
    · cases h
theorem gRun_room {full : Int32 → Bool} {bit vars : Int32 → Int32} {n : Nat} {t : Nat → Int32} {room : Nat} : ∀ (f p k : Nat) (c : Int32) (rc : Nat → Int32) (k' : Nat) (c' : Int32) (rc' : Nat → Int32), k ≤ room → (¬ c = 0 → k < room) → gRun full bit vars n t room f p k c rc = .inr (k', c', rc') → k' ≤ room := by
  intro f
  induction f with
  | zero => intro p k c rc k' c' rc' hk h2 h; cases h; exact hk
  | succ f ih =>
    intro p k c rc k' c' rc' hk h2 h
    unfold gRun at h
    split at h
    · cases hg : gTok full bit vars n t room p k c with
      | inl e' => rw [hg] at h; cases h
      | inr w =>
        obtain ⟨p1, c1, b⟩ := w
        rw [hg] at h
        have q := gTok_room h2 hg
        cases b with
        | false => exact ih _ _ _ _ _ _ _ hk (q.1 rfl) h
        | true => exact ih _ _ _ _ _ _ _ (q.2 rfl).2 (fun z => absurd (q.2 rfl).1 z) h
    · cases h; exact hk
/-- i clauses of rc behind n of cs -/
def appR (cs : Nat → Int32) (n : Nat) (rc : Nat → Int32) (i : Nat) : Nat → Int32 := fun j => if n ≤ j ∧ j < n + i then rc (j - n) else cs j
theorem appR_0 (cs : Nat → Int32) (n : Nat) (rc : Nat → Int32) : appR cs n rc 0 = cs := by
  funext j
  unfold appR
  rw [if_neg (by omega)]
theorem appR_s (cs : Nat → Int32) (n : Nat) (rc : Nat → Int32) (i : Nat) : upd (appR cs n rc i) (n + i) (rc i) = appR cs n rc (i + 1) := by
  funext j
  simp only [upd, appR]
  by_cases h1 : j = n + i
  · subst h1
    rw [if_pos rfl, if_pos (by omega)]
    congr 1
    omega
  · rw [if_neg h1]
    by_cases h2 : n ≤ j ∧ j < n + i
    · rw [if_pos h2, if_pos (by omega)]
    · rw [if_neg h2, if_neg (by omega)]
section API
variable {h : Hp} {n : Nat} {as : Int32} {cs w : Nat → Int32} {k : Nat} {sv : Nat → SC} {er : Nat → Int32} {tn : Nat} {tx : Nat → Int32}
def parP (h : Hp) (n : Nat) (as : Int32) (cs w : Nat → Int32) (k : Nat) (sv : Nat → SC) (er : Nat → Int32) (tn : Nat) (tx : Nat → Int32) (rd : Nat ⊕ (Nat × (Nat → Int32))) (r : Option Value) (h' : Hp) : Prop := match rd with
  | .inl e => qK h n as cs w k sv er tn tx (.int (-10 - nI e)) r h'
  | .inr (m, rc) => n + m ≤ 16 ∧ qK h (n + m) as (appR cs n rc m) w (min k 4 + 1) (svSave k sv (nI n, as, cs, w)) er tn tx (.int (nI m)) r h'
theorem CI.rd (x : CI h n as cs w k sv er tn tx) {h' : Hp} (F : Fr [23, 24] h h') (rd : RD h') : CI h' n as cs w k sv er tn tx ∧ FC h h' := by
  obtain ⟨gf, mf, h0, s, hn, ⟨q, hi⟩, hk, hsv, ti, -, cg, cm, wi, ce, h42⟩ := x
  exact ⟨⟨gf, mf, F.at (by decide) h0, s.ag (F.ag (by decide)), hn, ⟨q, hi.ag (F.ag (by decide))⟩, hk, hsv, ti.ag (F.ag (by decide)), rd, cg.fr F (by decide), cm.ag (F.ag (by decide)), wi.ag (F.ag (by decide)), ce.ag (F.ag (by decide)), F.at (by decide) h42⟩, F.c (by decide)⟩
theorem cx_parse_err (d0 : Nat) {h3 : Hp} {e : Nat} (he : e ≤ 1000) (F : FC h h3) (y : CI h3 n as cs w k sv er tn tx) : Rq mX8_parse d0 21 [.ref 0, .retAddr 0, .retAddr 0] [.int (nI e)] h3 (qK h n as cs w k sv er tn tx (.int (-10 - nI e))) := by
  have ne : ¬ nI e = -1 := fun z => by
    have q := Int32.toInt_inj.mpr z
    rw [show (nI e).toInt = (e : Int) from Int32.toInt_ofNat_of_lt (by omega), show (-1 : Int32).toInt = -1 from rfl] at q
    omega
  refine Rq_istore_n [_, _, _] dX8_parse_21 rfl rfl rfl ?_
  refine Rq_iload_n dX8_parse_22 rfl ?_
  refine Rq_iconst (-1) dX8_parse_23 (by decide) ?_
  refine Rq_icmp_eq_f 32 dX8_parse_24 (by decide) ne ?_
  refine Rq_bipush (-10) dX8_parse_27 (by decide) ?_
  refine Rq_iload_n dX8_parse_29 rfl ?_
  refine Rq_isub dX8_parse_30 ?_
  refine Rq_iret dX8_parse_31 rfl ?_
  exact ⟨rfl, F, y⟩
theorem cx_parse (d0 : Nat) (x : CI h n as cs w k sv er tn tx) : ∃ rc, Mq mX8_parse (d0 + 6) [.ref 0] h (parP h n as cs w k sv er tn tx (gRead fullC fBit fVars tn tx (16 - n) rc)) := by
  have x0 := x
  obtain ⟨gf, mf, h0, s, hn16, ⟨q, hi⟩, hk, hsv, ti, rd, cg, cm, wi, ce, h42⟩ := x
  obtain ⟨rc, hr⟩ := sp_read d0 (room := 16 - n) ti rd (by omega)
  refine ⟨rc, ?_⟩
  have e16 : (16 : Int32) - nI n = nI (16 - n) := by
    have : ∀ n : Nat, n < 17 → (16 : Int32) - nI n = nI (16 - n) := by decide
    exact this n (by omega)
  obtain ⟨k0, p0, c0, e0, rc0, h23, h24⟩ := rd
  refine Mq_of [_, _, _] (by decide +kernel) rfl rfl ?_
  refine Rq_aload_n dX8_parse_0 rfl ?_
  refine Rq_get dX8_parse_1 flX8_33 h0 rfl ?_
  refine Rq_aload_n dX8_parse_4 rfl ?_
  refine Rq_get dX8_parse_5 flX8_26 h0 rfl ?_
  refine Rq_bipush (16) dX8_parse_8 (by decide) ?_
  refine Rq_aload_n dX8_parse_10 rfl ?_
  refine Rq_get dX8_parse_11 flX8_12 h0 rfl ?_
  refine Rq_get dX8_parse_14 flX8_91 s.1 rfl ?_
  refine Rq_isub dX8_parse_17 ?_
  rw [e16]
  refine Rq_callVq [_, _] dX8_parse_18 clX8_201 rfl h23 hr rfl rfl rfl (fun rv h3 hq => ?_)
  obtain ⟨F, rd3, hq⟩ := hq
  obtain ⟨y1, y2⟩ := x0.rd F rd3
  unfold gRead
  cases hg : gRun fullC fBit fVars tn tx (16 - n) 150 0 0 0 rc with
  | inl e =>
    rw [hg] at hq
    simp only at hq
    obtain rfl := hq
    have := gRun_err _ _ _ _ _ _ hg
    exact cx_parse_err (d0 + 6) (by have := ti.2.2; omega) y2 y1
  | inr z =>
    obtain ⟨m, c, rc'⟩ := z
    rw [hg] at hq
    have hm := gRun_room _ _ _ _ _ _ _ _ (Nat.zero_le _) (fun z => absurd rfl z) hg
    by_cases hc : c = 0
    · obtain ⟨rfl, -, ⟨p, j23⟩, j24⟩ := hq.1 hc
      simp only [if_pos hc]
      have y0 := y1
      obtain ⟨gf, mf, k0, s, -, ⟨q, hi⟩, hk, hsv, ti, rd, cg, cm, wi, ⟨⟨us, g, fs, es, eo, ech, e38, e39, e40, e41⟩, -⟩, h42⟩ := y1
      refine Rq_istore_n [_, _, _] dX8_parse_21 rfl rfl rfl ?_
      refine Rq_iload_n dX8_parse_22 rfl ?_
      refine Rq_iconst (-1) dX8_parse_23 (by decide) ?_
      refine Rq_icmp_eq_t 32 dX8_parse_24 (by decide) rfl ?_
      refine Rq_aload_n dX8_parse_32 rfl ?_
      refine Rq_get dX8_parse_33 flX8_19 k0 rfl ?_
      refine Rq_aload_n dX8_parse_36 rfl ?_
      refine Rq_get dX8_parse_37 flX8_12 k0 rfl ?_
      refine Rq_callVq [_] dX8_parse_40 clX8_95 rfl hi.1 (sp_save (d0 + 3) hi hk s) rfl rfl rfl (fun rv h4 hq => ?_)
      obtain ⟨rfl, F4, q', hi'⟩ := hq
      have i0 := F4.at (by decide) k0
      have i23 := F4.at (by decide) j23
      have i24 := F4.at (by decide) j24
      have i38 := F4.at (by decide) e38
      have s4 : SV h4 1 (nI n, as, cs, w) := s.ag (F4.ag (by decide))
      obtain ⟨t1, ⟨f, t2, t3⟩, gw, t4, t5⟩ := s4
      replace t1 : h4[1]? = some (obS 2 (nI n) as 3) := t1
      replace t2 : h4[2]? = some (aI 16 f) := t2
      refine Rq_iconst (0) dX8_parse_43 (by decide) ?_
      refine Rq_istore_n [_, _, _] dX8_parse_44 rfl rfl rfl ?_
      have loop : ∀ (j i : Nat) (h5 : Hp), i + j = m → Fr [1, 2] h4 h5 → h5[1]? = some (obS 2 (nI (n + i)) as 3) → h5[2]? = some (aI 16 (appR f n rc' i)) →
          Rq mX8_parse (d0 + 6) 45 [.ref 0, .int (-1), .int (nI i)] [] h5 (parP h n as cs w k sv er tn tx (.inr (m, rc'))) := by
        intro j
        induction j with
        | zero =>
          intro i h5 hi5 F5 a1 a2
          have e : i = m := by omega
          subst e
          have b0 := F5.at (by decide) i0
          have b23 := F5.at (by decide) i23
          have b38 := F5.at (by decide) i38
          refine Rq_iload_n dX8_parse_45 rfl ?_
          refine Rq_aload_n dX8_parse_46 rfl ?_
          refine Rq_get dX8_parse_47 flX8_33 b0 rfl ?_
          refine Rq_get dX8_parse_50 flX8_205 b23 rfl ?_
          refine Rq_icmp_ge_t 77 dX8_parse_53 (by decide) (nI_le (Nat.le_refl _) (by omega)) ?_
          refine Rq_aload_n dX8_parse_77 rfl ?_
          refine Rq_callVv [] dX8_parse_78 clX8_106 rfl b0 (sp_changed (d0 + 4) b0 b38) rfl rfl rfl ?_
          have F6 : Fr [0, 38] h5 ((h5.set 0 (obX 0 0)).set 38 (obE us (-1) fs)) := Fr.trans (Fr.set (by decide)) (Fr.set (by decide))
          have c0 := hNs (e' := obE us (-1) fs) (by decide : (38 : Nat) ≠ 0) (hS (obX 0 0) b0)
          have c23 := F6.at (by decide) b23
          refine Rq_aload_n dX8_parse_81 rfl ?_
          refine Rq_get dX8_parse_82 flX8_33 c0 rfl ?_
          refine Rq_get dX8_parse_85 flX8_205 c23 rfl ?_
          refine Rq_iret dX8_parse_88 rfl ?_
          have FF : Fr chC h3 ((h5.set 0 (obX 0 0)).set 38 (obE us (-1) fs)) := (F4.mono (by decide)).trans ((F5.mono (by decide)).trans (F6.mono (by decide)))
          have z := y0.changed (n' := n + i) (as' := as) (cs' := appR cs n rc' i) (w' := w) FF c0 ⟨F6.at (by decide) a1, ⟨_, F6.at (by decide) a2, fun j hj => ?_⟩, gw, F6.at (by decide) (F5.at (by decide) t4), t5⟩ (by omega) ((hi'.ag (F5.ag (by decide))).ag (F6.ag (by decide))) (by omega) (svSave_ok hn16 rfl hsv) (hS _ (hNs (by decide) b38))
          · exact ⟨by omega, rfl, y2.trans z.2, z.1⟩
          · simp only [appR]
            split
            · rfl
            · exact t3 j hj
        | succ j ih =>
          intro i h5 hi5 F5 a1 a2
          have b0 := F5.at (by decide) i0
          have b23 := F5.at (by decide) i23
          have b24 := F5.at (by decide) i24
          refine Rq_iload_n dX8_parse_45 rfl ?_
          refine Rq_aload_n dX8_parse_46 rfl ?_
          refine Rq_get dX8_parse_47 flX8_33 b0 rfl ?_
          refine Rq_get dX8_parse_50 flX8_205 b23 rfl ?_
          refine Rq_icmp_ge_f 77 dX8_parse_53 (by decide) (nI_ge (by omega) (by omega)) ?_
          refine Rq_aload_n dX8_parse_56 rfl ?_
          refine Rq_get dX8_parse_57 flX8_12 b0 rfl ?_
          refine Rq_aload_n dX8_parse_60 rfl ?_
          refine Rq_get dX8_parse_61 flX8_33 b0 rfl ?_
          refine Rq_iload_n dX8_parse_64 rfl ?_
          refine Rq_callV [_] dX8_parse_65 clX8_208 rfl b23 (sp_rdClauseAt (d0 + 5) b23 b24 (by omega) (by omega)) rfl rfl rfl ?_
          refine Rq_callVv [_] dX8_parse_68 clX8_102 rfl a1 (sp_appendClause (d0 + 5) a1 a2 (by decide) (by omega)) rfl rfl rfl ?_
          rw [appR_s]
          refine Rq_iinc [_, _, _] (1) dX8_parse_71 rfl (by decide) rfl rfl rfl ?_
          refine Rq_goto 45 dX8_parse_74 (by decide) ?_
          rw [nI_1]
          exact ih (i + 1) _ (by omega) (F5.trans (Fr.trans (Fr.set (by decide)) (Fr.set (by decide)))) (hS _ (hNs (by decide) a1)) (hNs (by decide) (hS _ a2))
      exact loop m 0 h4 (by omega) Fr.rfl' t1 (by rw [appR_0]; exact t2)
    · obtain rfl := hq.2 hc
      simp only [if_neg hc]
      exact cx_parse_err (d0 + 6) (by have := ti.2.2; omega) y2 y1
/-! the digest -/
abbrev mix (a b : Int64) : Int64 := 31 * a + b
def dgE (er : Nat → Int32) : Nat → Int64
  | 0 => 2671
  | i + 1 => mix (dgE er i) (er i).toInt64
def dgC (g : Nat → Int32) (a : Int64) : Nat → Int64
  | 0 => a
  | i + 1 => mix (dgC g a i) (g i).toInt64
def dgG (a : Int64) (nt dn an dp rv pt : Int32) : Int64 := mix (mix (mix (mix (mix (mix a nt.toInt64) dn.toInt64) an.toInt64) dp.toInt64) rv.toInt64) pt.toInt64
/-- the digest, of what its parts answer -/
def dgAll (er : Nat → Int32) (tn n : Nat) (sz : Nat → Int32) (na : Int32) (wt : Nat → Int32) (nt dn an dp rv pt ms : Int32) (wc : Int64) (lm : Int32) (k : Nat) : Int64 :=
  mix (mix (mix (mix (dgG (dgC wt (mix (dgC sz (mix (mix (dgE er 4) (nI tn).toInt64) (nI n).toInt64) n) na.toInt64) 20) nt dn an dp rv pt) ms.toInt64) wc) lm.toInt64) (nI k).toInt64
theorem sp_dgG (d : Nat) {h : Hp} {rt : List Int32} {v : Int32} {s : Es} (a : Int64) (g : GH h rt v s) : Mx mX8_digestOfGraph (d + 4) [.long a, .ref 25] h (some (.long (dgG a (ntI s) s.2.1 s.2.2.1 v (rvC rt) (ptC rt)))) h := by
  have g0 := g
  obtain ⟨gi, f, gg, gr⟩ := g
  obtain ⟨nr, nz, nd, nn, h1, h2⟩ := GI.cell gg
  refine Mx_of [_, _, _, _, _] (by decide +kernel) rfl rfl ?_
  refine Rx_ldc2 dX8_digestOfGraph_0 kcX8_220 ?_
  refine Rx_lload_n dX8_digestOfGraph_3 rfl ?_
  refine Rx_lmul dX8_digestOfGraph_4 ?_
  refine Rx_aload_n dX8_digestOfGraph_5 rfl ?_
  refine Rx_callV [] dX8_digestOfGraph_6 clX8_140 rfl h1 (sp_nodeTotal (d + 3) g0) rfl rfl rfl ?_
  refine Rx_i2l dX8_digestOfGraph_9 ?_
  refine Rx_ladd dX8_digestOfGraph_10 ?_
  refine Rx_lstore_n [_, _, _, _, _] dX8_digestOfGraph_11 rfl rfl rfl ?_
  refine Rx_ldc2 dX8_digestOfGraph_12 kcX8_220 ?_
  refine Rx_lload_n dX8_digestOfGraph_15 rfl ?_
  refine Rx_lmul dX8_digestOfGraph_16 ?_
  refine Rx_aload_n dX8_digestOfGraph_17 rfl ?_
  refine Rx_get dX8_digestOfGraph_18 flX8_144 h1 rfl ?_
  refine Rx_i2l dX8_digestOfGraph_21 ?_
  refine Rx_ladd dX8_digestOfGraph_22 ?_
  refine Rx_lstore_n [_, _, _, _, _] dX8_digestOfGraph_23 rfl rfl rfl ?_
  refine Rx_ldc2 dX8_digestOfGraph_24 kcX8_220 ?_
  refine Rx_lload_n dX8_digestOfGraph_27 rfl ?_
  refine Rx_lmul dX8_digestOfGraph_28 ?_
  refine Rx_aload_n dX8_digestOfGraph_29 rfl ?_
  refine Rx_get dX8_digestOfGraph_30 flX8_147 h1 rfl ?_
  refine Rx_i2l dX8_digestOfGraph_33 ?_
  refine Rx_ladd dX8_digestOfGraph_34 ?_
  refine Rx_lstore_n [_, _, _, _, _] dX8_digestOfGraph_35 rfl rfl rfl ?_
  refine Rx_ldc2 dX8_digestOfGraph_36 kcX8_220 ?_
  refine Rx_lload_n dX8_digestOfGraph_39 rfl ?_
  refine Rx_lmul dX8_digestOfGraph_40 ?_
  refine Rx_aload_n dX8_digestOfGraph_41 rfl ?_
  refine Rx_get dX8_digestOfGraph_42 flX8_150 h1 rfl ?_
  refine Rx_i2l dX8_digestOfGraph_45 ?_
  refine Rx_ladd dX8_digestOfGraph_46 ?_
  refine Rx_lstore_n [_, _, _, _, _] dX8_digestOfGraph_47 rfl rfl rfl ?_
  refine Rx_ldc2 dX8_digestOfGraph_48 kcX8_220 ?_
  refine Rx_lload_n dX8_digestOfGraph_51 rfl ?_
  refine Rx_lmul dX8_digestOfGraph_52 ?_
  refine Rx_aload_n dX8_digestOfGraph_53 rfl ?_
  refine Rx_callV [] dX8_digestOfGraph_54 clX8_153 rfl h1 (sp_varRoot d g0) rfl rfl rfl ?_
  refine Rx_i2l dX8_digestOfGraph_57 ?_
  refine Rx_ladd dX8_digestOfGraph_58 ?_
  refine Rx_lstore_n [_, _, _, _, _] dX8_digestOfGraph_59 rfl rfl rfl ?_
  refine Rx_ldc2 dX8_digestOfGraph_60 kcX8_220 ?_
  refine Rx_lload_n dX8_digestOfGraph_63 rfl ?_
  refine Rx_lmul dX8_digestOfGraph_64 ?_
  refine Rx_aload_n dX8_digestOfGraph_65 rfl ?_
  refine Rx_callV [] dX8_digestOfGraph_66 clX8_156 rfl h1 (sp_parts (d + 1) g0) rfl rfl rfl ?_
  refine Rx_i2l dX8_digestOfGraph_69 ?_
  refine Rx_ladd dX8_digestOfGraph_70 ?_
  exact Rx_lret dX8_digestOfGraph_71 rfl
theorem cx_digest (d0 : Nat) (x : CI h n as cs w k sv er tn tx) (ok : Gok cs n as) : Mq mX8_digest (d0 + 29) [.ref 0] h (qK h n as cs w k sv er tn tx (.long (dgAll er tn n (fun i => bcI (cs i)) (bcI as) (fun i => w (i + 2)) (ntI (exS cs n as).2) (exS cs n as).2.2.1 (exS cs n as).2.2.2.1 (exS cs n as).1 (rvC (rootC cs n as)) (ptC (rootC cs n as)) (szW cs n as) (wcW cs n as w) (lstW (gW cs n as) 16 0) k))) := by
  have x0 := x
  obtain ⟨gf, mf, h0, s, hn16, ⟨q, hi⟩, hk, hsv, ti, rd, cg, cm, wi, ce, h42⟩ := x
  obtain ⟨s1, ⟨f, s2, s3⟩, gw, s4, s5⟩ := s
  replace s1 : h[1]? = some (obS 2 (nI n) as 3) := s1
  replace s4 : h[3]? = some (aI 22 gw) := s4
  generalize hQ : qK h n as cs w k sv er tn tx (.long (dgAll er tn n (fun i => bcI (cs i)) (bcI as) (fun i => w (i + 2)) (ntI (exS cs n as).2) (exS cs n as).2.2.1 (exS cs n as).2.2.2.1 (exS cs n as).1 (rvC (rootC cs n as)) (ptC (rootC cs n as)) (szW cs n as) (wcW cs n as w) (lstW (gW cs n as) 16 0) k)) = Q
  have K4 : ∀ a, a = dgC (fun i => w (i + 2)) (mix (dgC (fun i => bcI (cs i)) (mix (mix (dgE er 4) (nI tn).toInt64) (nI n).toInt64) n) (bcI as).toInt64) 20 → Rq mX8_digest (d0 + 29) 147 [.ref 0, .long a, .retAddr 0, .int (nI 22)] [] h Q := by
    intro a ha
    refine Rq_lload_n dX8_digest_147 rfl ?_
    refine Rq_aload_n dX8_digest_148 rfl ?_
    refine Rq_callVq [] dX8_digest_149 clX8_136 rfl h0 (sp_freshGraph d0 x0 ok) rfl rfl rfl (fun rv h3 hq => ?_)
    obtain ⟨rfl, F, y, g⟩ := hq
    refine Rq_callS [_, _] dX8_digest_152 clX8_225 (sp_dgG (d0 + 24) a g) rfl rfl rfl ?_
    refine Rq_lstore_n [_, _, _, _] dX8_digest_155 rfl rfl rfl ?_
    obtain ⟨gf3, mf3, k0, -⟩ := id y
    refine Rq_aload_n dX8_digest_156 rfl ?_
    refine Rq_callVq [] dX8_digest_157 clX8_159 rfl k0 (sp_freshModels (d0 + 25) y) rfl rfl rfl (fun rv h4 hq => ?_)
    obtain ⟨rfl, F4, y4, -, fm, m, hf⟩ := hq
    have e1 : sumI (fun j => bcL (fm j)) 16 = szW cs n as := sumI_cong (fun j hj => by rw [hf j hj])
    have e2 : ovw fm (fun j => pw w 1 j 5) (fun j => pw w 6 j 5) 32 = wcW cs n as w := ovw_congF hf 32 (Nat.le_refl _)
    have e3 : lstW fm 16 0 = lstW (gW cs n as) 16 0 := lstW_cong 16 0 (fun j _ hj => hf j (by omega))
    obtain ⟨gf4, mf4, j0, sj, -, -, -, -, -, -, -, -, wi4, -⟩ := id y4
    refine Rq_astore_n [_, _, _, _] dX8_digest_160 rfl rfl rfl ?_
    refine Rq_ldc2 dX8_digest_161 kcX8_220 ?_
    refine Rq_lload_n dX8_digest_164 rfl ?_
    refine Rq_lmul dX8_digest_165 ?_
    refine Rq_aload_n dX8_digest_166 rfl ?_
    refine Rq_callV [] dX8_digest_167 clX8_163 rfl m.1 (sp_size (d0 + 27) m) rfl rfl rfl ?_
    refine Rq_i2l dX8_digest_170 ?_
    refine Rq_ladd dX8_digest_171 ?_
    refine Rq_lstore_n [_, _, _, _] dX8_digest_172 rfl rfl rfl ?_
    refine Rq_ldc2 dX8_digest_173 kcX8_220 ?_
    refine Rq_lload_n dX8_digest_176 rfl ?_
    refine Rq_lmul dX8_digest_177 ?_
    refine Rq_aload_n dX8_digest_178 rfl ?_
    refine Rq_get dX8_digest_179 flX8_54 j0 rfl ?_
    refine Rq_aload_n dX8_digest_182 rfl ?_
    refine Rq_aload_n dX8_digest_183 rfl ?_
    refine Rq_get dX8_digest_184 flX8_12 j0 rfl ?_
    refine Rq_callVq [_, _] dX8_digest_187 clX8_169 rfl wi4.1 (sp_over (d0 + 26) m wi4 sj) rfl rfl rfl (fun rv h5 hq => ?_)
    obtain ⟨rfl, F5, wi5⟩ := hq
    obtain ⟨y5, y6⟩ := y4.wi F5 wi5
    have m5 : MI h5 fm := m.ag (F5.ag (by decide))
    obtain ⟨gf5, mf5, i0, -, -, ⟨q5, hi5⟩, -⟩ := id y5
    refine Rq_ladd dX8_digest_190 ?_
    refine Rq_lstore_n [_, _, _, _] dX8_digest_191 rfl rfl rfl ?_
    refine Rq_ldc2 dX8_digest_192 kcX8_220 ?_
    refine Rq_lload_n dX8_digest_195 rfl ?_
    refine Rq_lmul dX8_digest_196 ?_
    refine Rq_aload_n dX8_digest_197 rfl ?_
    refine Rq_callV [] dX8_digest_198 clX8_179 rfl m5.1 (sp_least (d0 + 26) m5) rfl rfl rfl ?_
    refine Rq_i2l dX8_digest_201 ?_
    refine Rq_ladd dX8_digest_202 ?_
    refine Rq_lstore_n [_, _, _, _] dX8_digest_203 rfl rfl rfl ?_
    refine Rq_ldc2 dX8_digest_204 kcX8_220 ?_
    refine Rq_lload_n dX8_digest_207 rfl ?_
    refine Rq_lmul dX8_digest_208 ?_
    refine Rq_aload_n dX8_digest_209 rfl ?_
    refine Rq_get dX8_digest_210 flX8_19 i0 rfl ?_
    refine Rq_get dX8_digest_213 flX8_209 hi5.1 rfl ?_
    refine Rq_i2l dX8_digest_216 ?_
    refine Rq_ladd dX8_digest_217 ?_
    refine Rq_lret dX8_digest_218 rfl ?_
    rw [← hQ]
    refine ⟨?_, F.trans (F4.trans y6), y5⟩
    rw [e1, e3, ha]
    unfold dgAll
    rw [← e2]
  have K3 : ∀ (j i : Nat), i + j = 20 → Rq mX8_digest (d0 + 29) 119 [.ref 0, .long (dgC (fun i => w (i + 2)) (mix (dgC (fun i => bcI (cs i)) (mix (mix (dgE er 4) (nI tn).toInt64) (nI n).toInt64) n) (bcI as).toInt64) i), .retAddr 0, .int (nI (i + 2))] [] h Q := by
    intro j
    induction j with
    | zero =>
      intro i hi'
      have e : i = 20 := by omega
      subst e
      refine Rq_iload_n dX8_digest_119 rfl ?_
      refine Rq_bipush (21) dX8_digest_120 (by decide) ?_
      refine Rq_icmp_gt_t 147 dX8_digest_122 (by decide) (nI_lt (a := 21) (b := 22) (by decide) (by decide)) ?_
      exact K4 _ rfl
    | succ j ih =>
      intro i hi'
      refine Rq_iload_n dX8_digest_119 rfl ?_
      refine Rq_bipush (21) dX8_digest_120 (by decide) ?_
      refine Rq_icmp_gt_f 147 dX8_digest_122 (by decide) (nI_nlt (a := 21) (b := i + 2) (by omega) (by decide)) ?_
      refine Rq_ldc2 dX8_digest_125 kcX8_220 ?_
      refine Rq_lload_n dX8_digest_128 rfl ?_
      refine Rq_lmul dX8_digest_129 ?_
      refine Rq_aload_n dX8_digest_130 rfl ?_
      refine Rq_get dX8_digest_131 flX8_12 h0 rfl ?_
      refine Rq_iload_n dX8_digest_134 rfl ?_
      refine Rq_callV [_] dX8_digest_135 clX8_222 rfl s1 (sp_weightOf (d0 + 28) s1 s4 (show i + 2 < 22 by omega)) rfl rfl rfl ?_
      rw [s5 (i + 2) (by omega)]
      refine Rq_i2l dX8_digest_138 ?_
      refine Rq_ladd dX8_digest_139 ?_
      refine Rq_lstore_n [_, _, _, _] dX8_digest_140 rfl rfl rfl ?_
      refine Rq_iinc [_, _, _, _] (1) dX8_digest_141 rfl (by decide) rfl rfl rfl ?_
      refine Rq_goto 119 dX8_digest_144 (by decide) ?_
      rw [nI_1]
      exact ih (i + 1) (by omega)
  have K2 : ∀ (j i : Nat), i + j = n → Rq mX8_digest (d0 + 29) 63 [.ref 0, .long (dgC (fun i => bcI (cs i)) (mix (mix (dgE er 4) (nI tn).toInt64) (nI n).toInt64) i), .retAddr 0, .int (nI i)] [] h Q := by
    intro j
    induction j with
    | zero =>
      intro i hi'
      have e : i = n := by omega
      subst e
      refine Rq_iload_n dX8_digest_63 rfl ?_
      refine Rq_aload_n dX8_digest_64 rfl ?_
      refine Rq_get dX8_digest_65 flX8_12 h0 rfl ?_
      refine Rq_get dX8_digest_68 flX8_91 s1 rfl ?_
      refine Rq_icmp_ge_t 99 dX8_digest_71 (by decide) (nI_le (Nat.le_refl _) (by omega)) ?_
      refine Rq_ldc2 dX8_digest_99 kcX8_220 ?_
      refine Rq_lload_n dX8_digest_102 rfl ?_
      refine Rq_lmul dX8_digest_103 ?_
      refine Rq_aload_n dX8_digest_104 rfl ?_
      refine Rq_get dX8_digest_105 flX8_12 h0 rfl ?_
      refine Rq_get dX8_digest_108 flX8_123 s1 rfl ?_
      refine Rq_callS [_] dX8_digest_111 clX8_118 (sp_bitCount (d0 + 28) h _) rfl rfl rfl ?_
      refine Rq_i2l dX8_digest_114 ?_
      refine Rq_ladd dX8_digest_115 ?_
      refine Rq_lstore_n [_, _, _, _] dX8_digest_116 rfl rfl rfl ?_
      refine Rq_iconst (2) dX8_digest_117 (by decide) ?_
      refine Rq_istore_n [_, _, _, _] dX8_digest_118 rfl rfl rfl ?_
      exact K3 20 0 rfl
    | succ j ih =>
      intro i hi'
      refine Rq_iload_n dX8_digest_63 rfl ?_
      refine Rq_aload_n dX8_digest_64 rfl ?_
      refine Rq_get dX8_digest_65 flX8_12 h0 rfl ?_
      refine Rq_get dX8_digest_68 flX8_91 s1 rfl ?_
      refine Rq_icmp_ge_f 99 dX8_digest_71 (by decide) (nI_ge (by omega) (by omega)) ?_
      refine Rq_ldc2 dX8_digest_74 kcX8_220 ?_
      refine Rq_lload_n dX8_digest_77 rfl ?_
      refine Rq_lmul dX8_digest_78 ?_
      refine Rq_aload_n dX8_digest_79 rfl ?_
      refine Rq_get dX8_digest_80 flX8_12 h0 rfl ?_
      refine Rq_iload_n dX8_digest_83 rfl ?_
      refine Rq_callV [_] dX8_digest_84 clX8_115 rfl s1 (sp_clauseAt (d0 + 27) s1 s2 (show i < n by omega) hn16) rfl rfl rfl ?_
      rw [s3 i (by omega)]
      refine Rq_callS [_] dX8_digest_87 clX8_118 (sp_bitCount (d0 + 28) h _) rfl rfl rfl ?_
      refine Rq_i2l dX8_digest_90 ?_
      refine Rq_ladd dX8_digest_91 ?_
      refine Rq_lstore_n [_, _, _, _] dX8_digest_92 rfl rfl rfl ?_
      refine Rq_iinc [_, _, _, _] (1) dX8_digest_93 rfl (by decide) rfl rfl rfl ?_
      refine Rq_goto 63 dX8_digest_96 (by decide) ?_
      rw [nI_1]
      exact ih (i + 1) (by omega)
  have K1 : ∀ (j i : Nat), i + j = 4 → Rq mX8_digest (d0 + 29) 6 [.ref 0, .long (dgE er i), .retAddr 0, .int (nI i)] [] h Q := by
    intro j
    induction j with
    | zero =>
      intro i hi'
      have e : i = 4 := by omega
      subst e
      refine Rq_iload_n dX8_digest_6 rfl ?_
      refine Rq_iconst (4) dX8_digest_7 (by decide) ?_
      refine Rq_icmp_ge_t 31 dX8_digest_8 (by decide) (nI_le (a := 4) (b := 4) (Nat.le_refl _) (by omega)) ?_
      refine Rq_ldc2 dX8_digest_31 kcX8_220 ?_
      refine Rq_lload_n dX8_digest_34 rfl ?_
      refine Rq_lmul dX8_digest_35 ?_
      refine Rq_aload_n dX8_digest_36 rfl ?_
      refine Rq_get dX8_digest_37 flX8_26 h0 rfl ?_
      refine Rq_get dX8_digest_40 flX8_195 ti.1 rfl ?_
      refine Rq_i2l dX8_digest_43 ?_
      refine Rq_ladd dX8_digest_44 ?_
      refine Rq_lstore_n [_, _, _, _] dX8_digest_45 rfl rfl rfl ?_
      refine Rq_ldc2 dX8_digest_46 kcX8_220 ?_
      refine Rq_lload_n dX8_digest_49 rfl ?_
      refine Rq_lmul dX8_digest_50 ?_
      refine Rq_aload_n dX8_digest_51 rfl ?_
      refine Rq_get dX8_digest_52 flX8_12 h0 rfl ?_
      refine Rq_get dX8_digest_55 flX8_91 s1 rfl ?_
      refine Rq_i2l dX8_digest_58 ?_
      refine Rq_ladd dX8_digest_59 ?_
      refine Rq_lstore_n [_, _, _, _] dX8_digest_60 rfl rfl rfl ?_
      refine Rq_iconst (0) dX8_digest_61 (by decide) ?_
      refine Rq_istore_n [_, _, _, _] dX8_digest_62 rfl rfl rfl ?_
      exact K2 n 0 (by omega)
    | succ j ih =>
      intro i hi'
      refine Rq_iload_n dX8_digest_6 rfl ?_
      refine Rq_iconst (4) dX8_digest_7 (by decide) ?_
      refine Rq_icmp_ge_f 31 dX8_digest_8 (by decide) (nI_ge (b := 4) (by omega) (by omega)) ?_
      refine Rq_ldc2 dX8_digest_11 kcX8_220 ?_
      refine Rq_lload_n dX8_digest_14 rfl ?_
      refine Rq_lmul dX8_digest_15 ?_
      refine Rq_aload_n dX8_digest_16 rfl ?_
      refine Rq_get dX8_digest_17 flX8_65 h0 rfl ?_
      refine Rq_iload_n dX8_digest_20 rfl ?_
      refine Rq_iald i dX8_digest_21 h42 (by omega) (by decide) rfl ?_
      refine Rq_i2l dX8_digest_22 ?_
      refine Rq_ladd dX8_digest_23 ?_
      refine Rq_lstore_n [_, _, _, _] dX8_digest_24 rfl rfl rfl ?_
      refine Rq_iinc [_, _, _, _] (1) dX8_digest_25 rfl (by decide) rfl rfl rfl ?_
      refine Rq_goto 6 dX8_digest_28 (by decide) ?_
      rw [nI_1]
      exact ih (i + 1) (by omega)
  refine Mq_of [_, _, _, _] (by decide +kernel) rfl rfl ?_
  refine Rq_ldc2 dX8_digest_0 kcX8_218 ?_
  refine Rq_lstore_n [_, _, _, _] dX8_digest_3 rfl rfl rfl ?_
  refine Rq_iconst (0) dX8_digest_4 (by decide) ?_
  refine Rq_istore_n [_, _, _, _] dX8_digest_5 rfl rfl rfl ?_
  exact K1 4 0 rfl
end API
