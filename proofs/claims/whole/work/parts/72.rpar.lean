/-! two readers side by side; the reference's parse -/
theorem lit_pm {v : Int32} (h1 : 1 ≤ v) (h2 : v ≤ 10) : isLitP v ∧ isLitP (-v) := by
  have lz : isLzP v := ⟨Int32.le_trans (by decide) h1, h2⟩
  obtain ⟨i, hi, rfl⟩ := lz_cases lz
  have : ∀ i, i < 21 → 1 ≤ nI i - 10 → (¬ nI i - 10 = 0 ∧ -10 ≤ nI i - 10 ∧ nI i - 10 ≤ 10) ∧ (¬ -(nI i - 10) = 0 ∧ -10 ≤ -(nI i - 10) ∧ -(nI i - 10) ≤ 10) := by decide +kernel
  exact this i hi h1
def RSum (R : Int32 → Int32 → Prop) (a b : Nat ⊕ (Nat × Int32 × (Nat → Int32))) : Prop := match a with
  | .inl e => b = .inl e
  | .inr (k, c, rc) => ∃ c' rc', b = .inr (k, c', rc') ∧ R c c' ∧ ∀ j, j < k → R (rc j) (rc' j)
section GS
variable {f1 f2 : Int32 → Bool} {b1 v1 b2 v2 : Int32 → Int32} {n room : Nat} {t : Nat → Int32} {R : Int32 → Int32 → Prop}
theorem gLit_sim {p : Nat} {c c' : Int32} (rv : ∀ x, isLitP x → (v1 c &&& v1 (b1 x) = 0 ↔ v2 c' &&& v2 (b2 x) = 0)) (ro : ∀ x, isLitP x → v1 c &&& v1 (b1 x) = 0 → R (c ||| b1 x) (c' ||| b2 x)) :
    (∃ e, gLit b1 v1 n t p c = .inl e ∧ gLit b2 v2 n t p c' = .inl e) ∨ ∃ p' d d', gLit b1 v1 n t p c = .inr (p', d) ∧ gLit b2 v2 n t p c' = .inr (p', d') ∧ R d d' := by
  unfold gLit
  generalize (if t p = 45 then p + 1 else p) = q
  by_cases h0 : cntD n t q = 0
  · rw [if_pos h0, if_pos h0]
    exact Or.inl ⟨_, rfl, rfl⟩
  · rw [if_neg h0, if_neg h0]
    by_cases h3 : cntD n t q = 3
    · rw [if_pos h3, if_pos h3]
      exact Or.inl ⟨_, rfl, rfl⟩
    · rw [if_neg h3, if_neg h3]
      by_cases hv : 1 ≤ numv t q (cntD n t q) ∧ numv t q (cntD n t q) ≤ 10
      · rw [if_pos hv, if_pos hv]
        have hx : isLitP (if t p = 45 then -numv t q (cntD n t q) else numv t q (cntD n t q)) := by
          split
          · exact (lit_pm hv.1 hv.2).2
          · exact (lit_pm hv.1 hv.2).1
        generalize (if t p = 45 then -numv t q (cntD n t q) else numv t q (cntD n t q)) = x at hx ⊢
        by_cases z : v1 c &&& v1 (b1 x) = 0
        · rw [if_pos z, if_pos ((rv x hx).mp z)]
          exact Or.inr ⟨_, _, _, rfl, rfl, ro x hx z⟩
        · rw [if_neg z, if_neg (fun y => z ((rv x hx).mpr y))]
          exact Or.inl ⟨_, rfl, rfl⟩
      · rw [if_neg hv, if_neg hv]
        exact Or.inl ⟨_, rfl, rfl⟩
theorem gRun_sim (R0 : R 0 0) (Rz : ∀ c c', R c c' → (c = 0 ↔ c' = 0)) (Rf : ∀ c c', R c c' → f1 c = f2 c') (Rv : ∀ c c' x, R c c' → isLitP x → (v1 c &&& v1 (b1 x) = 0 ↔ v2 c' &&& v2 (b2 x) = 0)) (Ro : ∀ c c' x, R c c' → f1 c = false → isLitP x → v1 c &&& v1 (b1 x) = 0 → R (c ||| b1 x) (c' ||| b2 x)) :
    ∀ (f p k : Nat) (c c' : Int32) (rc rc' : Nat → Int32), R c c' → (∀ j, j < k → R (rc j) (rc' j)) → RSum R (gRun f1 b1 v1 n t room f p k c rc) (gRun f2 b2 v2 n t room f p k c' rc') := by
  intro f
  induction f with
  | zero =>
    intro p k c c' rc rc' h1 h2
    exact ⟨c', rc', rfl, h1, h2⟩
  | succ f ih =>
    intro p k c c' rc rc' h1 h2
    unfold gRun
    by_cases cp : p < n
    · rw [if_pos cp, if_pos cp]
      unfold gTok
      by_cases c32 : t p = 32
      · rw [if_pos c32, if_pos c32]
        exact ih _ _ _ _ _ _ h1 h2
      · rw [if_neg c32, if_neg c32]
        by_cases c59 : t p = 59
        · rw [if_pos c59, if_pos c59]
          by_cases c0 : c = 0
          · rw [if_pos c0, if_pos ((Rz _ _ h1).mp c0)]
            rfl
          · rw [if_neg c0, if_neg (fun z => c0 ((Rz _ _ h1).mpr z))]
            refine ih _ _ _ _ _ _ R0 (fun j hj => ?_)
            unfold upd
            by_cases e : j = k
            · rw [if_pos e, if_pos e]
              exact h1
            · rw [if_neg e, if_neg e]
              exact h2 j (by omega)
        · rw [if_neg c59, if_neg c59]
          by_cases c45 : t p = 45 ∨ digb n t p = true
          · rw [if_pos c45, if_pos c45]
            by_cases cf : f1 c = true ∨ (c = 0 ∧ room ≤ k)
            · rw [if_pos cf, if_pos (by rw [← Rf _ _ h1, ← Rz _ _ h1]; exact cf)]
              rfl
            · rw [if_neg cf, if_neg (by rw [← Rf _ _ h1, ← Rz _ _ h1]; exact cf)]
              have nf : f1 c = false := by
                cases hh : f1 c
                · rfl
                · exact absurd (Or.inl hh) cf
              rcases gLit_sim (n := n) (t := t) (p := p) (R := R) (fun x hx => Rv c c' x h1 hx) (fun x hx hz => Ro c c' x h1 nf hx hz) with ⟨e, e1, e2⟩ | ⟨p', d, d', e1, e2, r⟩
              · rw [e1, e2]
                rfl
              · rw [e1, e2]
                exact ih _ _ _ _ _ _ r h2
          · rw [if_neg c45, if_neg c45]
            rfl
    · rw [if_neg cp, if_neg cp]
      exact ⟨c', rc', rfl, h1, h2⟩
def RRd (R : Int32 → Int32 → Prop) (a b : Nat ⊕ (Nat × (Nat → Int32))) : Prop := match a with
  | .inl e => b = .inl e
  | .inr (k, rc) => ∃ rc', b = .inr (k, rc') ∧ ∀ j, j < k → R (rc j) (rc' j)
theorem gRead_sim (R0 : R 0 0) (Rz : ∀ c c', R c c' → (c = 0 ↔ c' = 0)) (Rf : ∀ c c', R c c' → f1 c = f2 c') (Rv : ∀ c c' x, R c c' → isLitP x → (v1 c &&& v1 (b1 x) = 0 ↔ v2 c' &&& v2 (b2 x) = 0)) (Ro : ∀ c c' x, R c c' → f1 c = false → isLitP x → v1 c &&& v1 (b1 x) = 0 → R (c ||| b1 x) (c' ||| b2 x)) (rc rc' : Nat → Int32) : RRd R (gRead f1 b1 v1 n t room rc) (gRead f2 b2 v2 n t room rc') := by
  have q := gRun_sim (n := n) (t := t) (room := room) R0 Rz Rf Rv Ro 150 0 0 0 0 rc rc' R0 (fun j hj => absurd hj (Nat.not_lt_zero _))
  unfold gRead
  cases hg : gRun f1 b1 v1 n t room 150 0 0 0 rc with
  | inl e =>
    rw [hg] at q
    have q' : gRun f2 b2 v2 n t room 150 0 0 0 rc' = .inl e := q
    rw [q']
    rfl
  | inr z =>
    obtain ⟨k, c, r⟩ := z
    rw [hg] at q
    obtain ⟨c', r', e, h1, h2⟩ := q
    rw [e]
    by_cases c0 : c = 0
    · simp only [if_pos c0, if_pos ((Rz _ _ h1).mp c0)]
      exact ⟨r', rfl, h2⟩
    · simp only [if_neg c0, if_neg (fun z => c0 ((Rz _ _ h1).mpr z))]
      rfl
end GS
theorem rBit_w {x : Int32} (hx : isLitP x) : vW (rBit x) := by
  have := rB0_w hx.2
  unfold rB0 at this
  rw [if_neg hx.1] at this
  exact this
theorem gRead_w {n room m : Nat} {t rc rc' : Nat → Int32} (h : gRead fullR rBit rVars n t room rc = .inr (m, rc')) : ∀ j, j < m → vW (rc' j) := by
  have q := gRead_sim (R := fun a b => a = b ∧ vW a) (f1 := fullR) (f2 := fullR) (b1 := rBit) (b2 := rBit) (v1 := rVars) (v2 := rVars) (n := n) (t := t) (room := room) ⟨rfl, 0, by decide, rfl⟩ (fun c c' h => by rw [h.1]) (fun c c' h => by rw [h.1]) (fun c c' x h _ => by rw [h.1]) (fun c c' x h _ hx _ => ⟨by rw [h.1], vW_or h.2 (rBit_w hx)⟩) rc rc
  rw [h] at q
  obtain ⟨r, -, q⟩ := q
  exact fun j hj => (q j hj).2
section RF
variable {h : Hp} {S V er tx : Nat → Int32} {n sm tn : Nat}
def apS (S : Nat → Int32) (n : Nat) (rc : Nat → Int32) (i : Nat) : Nat → Int32 := fun j => if j = 0 then nI (n + i) else if 1 + n ≤ j ∧ j < 1 + n + i then rc (j - (1 + n)) else S j
theorem apS_0 (s0 : S 0 = nI n) (rc : Nat → Int32) : apS S n rc 0 = S := by
  funext j
  unfold apS
  by_cases c : j = 0
  · rw [if_pos c, c, s0]
    rfl
  · rw [if_neg c, if_neg (by omega)]
theorem apS_s (rc : Nat → Int32) (i : Nat) : upd (upd (apS S n rc i) (1 + n + i) (rc i)) 0 (nI (n + (i + 1))) = apS S n rc (i + 1) := by
  funext j
  unfold upd apS
  by_cases c : j = 0
  · rw [if_pos c, if_pos c]
  · rw [if_neg c, if_neg c, if_neg c]
    by_cases c1 : j = 1 + n + i
    · subst c1
      rw [if_pos rfl, if_pos (by omega)]
      exact congrArg rc (by omega)
    · rw [if_neg c1]
      by_cases c2 : 1 + n ≤ j ∧ j < 1 + n + i
      · rw [if_pos c2, if_pos (by omega)]
      · rw [if_neg c2, if_neg (by omega)]
def rParP (h : Hp) (S V er tx : Nat → Int32) (n sm tn : Nat) (rd : Nat ⊕ (Nat × (Nat → Int32))) (r : Option Value) (h' : Hp) : Prop := match rd with
  | .inl e => qR h S V er tx n sm tn (.int (-10 - nI e)) r h'
  | .inr (m, rc) => n + m ≤ 16 ∧ qR h (apS S n rc m) (svV sm V S) er tx (n + m) (min sm 4 + 1) tn (.int (nI m)) r h'
theorem RI.rd (x : RI h S V er tx n sm tn) {h' : Hp} {ic nm rm hf ht rt mm il sp rdm sp' rdm' : Int32} {rc' : Nat → Int32} (k43 : h[43]? = some (obM (nI sm) (nI tn) ic nm rm hf ht rt mm il sp rdm)) (F : Fr [43, 61] h h') (j43 : h'[43]? = some (obM (nI sm) (nI tn) ic nm rm hf ht rt mm il sp' rdm')) (j61 : h'[61]? = some (aI 16 rc')) : Fr mC h h' ∧ RI h' S V er tx n sm tn := by
  obtain ⟨ic1, nm1, rm1, hf1, ht1, rt1, mm1, il1, sp1, rdm1, k43', k44, s0, n16, sv, k45, sm5, vo, k46, k47, tl, rg, rmm, rc, k61⟩ := x
  rw [k43] at k43'
  injection k43' with e
  injection e with e
  injection e with _ e
  simp only [List.cons.injEq, Value.int.injEq, true_and, and_true] at e
  obtain ⟨e1, e2, e3, e4, e5, e6, e7, e8, e9, e10⟩ := e
  subst e1 e2 e3 e4 e5 e6 e7 e8
  exact ⟨F.mono (by decide), _, _, _, _, _, _, _, _, _, _, j43, F.at (by decide) k44, s0, n16, sv, F.at (by decide) k45, sm5, vo, F.at (by decide) k46, F.at (by decide) k47, tl, rg.ag (F.ag (by decide)), rmm.at (F.2 60 (by decide)), rc', j61⟩
theorem rx_parse_err (d : Nat) {h3 : Hp} {e : Nat} (he : e ≤ 1000) (y : Fr mC h h3 ∧ RI h3 S V er tx n sm tn) : Rq mX9_parse d 4 [.ref 43, .retAddr 0, .retAddr 0] [.int (nI e)] h3 (qR h S V er tx n sm tn (.int (-10 - nI e))) := by
  refine Rq_istore_n [_, _, _] dX9_parse_4 rfl rfl rfl ?_
  refine Rq_iload_n dX9_parse_5 rfl ?_
  refine Rq_if_lt_f 14 dX9_parse_6 (by decide) (Int32.not_lt.mpr (nI_ps (i := e) (by omega))) ?_
  refine Rq_bipush (-10) dX9_parse_9 (by decide) ?_
  refine Rq_iload_n dX9_parse_11 rfl ?_
  refine Rq_isub dX9_parse_12 ?_
  refine Rq_iret dX9_parse_13 rfl ?_
  exact ⟨rfl, y⟩
theorem rx_parse (d : Nat) (x : RI h S V er tx n sm tn) : ∃ rc, Mq mX9_parse (d + 4) [.ref 43] h (rParP h S V er tx n sm tn (gRead fullR rBit rVars tn tx (16 - n) rc)) := by
  have x0 := x
  obtain ⟨ic, nm, rm, hf, ht, rt, mm, il, sp, rdm, k43, k44, s0, n16, sv, sm5, k46, k47, tl, ⟨rc, k61⟩, k45, vo⟩ := x.k43
  refine ⟨rc, ?_⟩
  refine Mq_of [_, _, _] (by decide +kernel) rfl rfl ?_
  refine Rq_aload_n dX9_parse_0 rfl ?_
  refine Rq_callVq [] dX9_parse_1 clX9_241 rfl k43 (rp_reads d s0 n16 tl k43 k44 k47 k61) rfl rfl rfl (fun rv h1 hq => ?_)
  obtain ⟨F, sp', rdm', rc1, j43, j61, hq⟩ := hq
  have y := x0.rd k43 F j43 j61
  unfold gRead
  cases hg : gRun fullR rBit rVars tn tx (16 - n) 150 0 0 0 rc with
  | inl e =>
    rw [hg] at hq
    obtain ⟨rfl, he⟩ := hq
    exact rx_parse_err (d + 4) (by omega) y
  | inr z =>
    obtain ⟨m, c, rc'⟩ := z
    rw [hg] at hq
    have hm := gRun_room _ _ _ _ _ _ _ _ (Nat.zero_le _) (fun z => absurd rfl z) hg
    by_cases hc : c = 0
    · simp only [if_pos hc] at hq ⊢
      obtain ⟨rfl, rfl, rfl⟩ := hq
      have hw : ∀ j, j < m → vW (rc1 j) := gRead_w (n := tn) (t := tx) (room := 16 - n) (rc := rc) (by unfold gRead; rw [hg]; exact if_pos hc)
      refine Rq_istore_n [_, _, _] dX9_parse_4 rfl rfl rfl ?_
      refine Rq_iload_n dX9_parse_5 rfl ?_
      refine Rq_if_lt_t 14 dX9_parse_6 (by decide) (by decide) ?_
      refine Rq_aload_n dX9_parse_14 rfl ?_
      refine Rq_callVq [] dX9_parse_15 clX9_94 rfl j43 (ri_save (d + 3) y.2 j43) rfl rfl rfl (fun rv h2 hq => ?_)
      obtain ⟨rfl, F2, i44, i43, i45, io⟩ := hq
      have i61 := F2.at (by decide) j61
      have loop : ∀ (j i : Nat), i + j = m → Rq mX9_parse (d + 4) 20 [.ref 43, .int (-1), .int (nI i)] [] (h2.set 44 (aI 39 (apS S n rc1 i))) (rParP h S V er tx n sm tn (.inr (m, rc1))) := by
        intro j
        induction j with
        | zero =>
          intro i hi
          have e : i = m := by omega
          subst e
          have l43 := hNs (e' := aI 39 (apS S n rc1 i)) (by decide : (44 : Nat) ≠ 43) i43
          have l44 := hS (aI 39 (apS S n rc1 i)) i44
          have F3 : Fr [43, 44, 45, 61] h1 (h2.set 44 (aI 39 (apS S n rc1 i))) := (F2.mono (by decide)).trans (Fr.set (by decide))
          refine Rq_iload_n dX9_parse_20 rfl ?_
          refine Rq_aload_n dX9_parse_21 rfl ?_
          refine Rq_get dX9_parse_22 flX9_235 l43 rfl ?_
          refine Rq_icmp_ge_t 63 dX9_parse_25 (by decide) (nI_le (Nat.le_refl i) (by omega)) ?_
          refine Rq_aload_n dX9_parse_63 rfl ?_
          refine Rq_get dX9_parse_64 flX9_235 l43 rfl ?_
          refine Rq_iret dX9_parse_67 rfl ?_
          have z := y.2.chg F3 l43 l44 rfl (by omega) (fun k hk => by
            unfold apS
            rw [if_neg (by omega)]
            by_cases c : 1 + n ≤ 1 + k ∧ 1 + k < 1 + n + i
            · rw [if_pos c]
              exact hw _ (by omega)
            · rw [if_neg c]
              exact sv k (by omega)) (hNs (by decide) i45) (by omega) io ⟨rc1, hNs (by decide) i61⟩
          exact ⟨by omega, rfl, (y.1).trans z.1, z.2⟩
        | succ j ih =>
          intro i hi
          have q := ih (i + 1) (by omega)
          have l43 := hNs (e' := aI 39 (apS S n rc1 i)) (by decide : (44 : Nat) ≠ 43) i43
          have l44 := hS (aI 39 (apS S n rc1 i)) i44
          have l61 := hNs (e' := aI 39 (apS S n rc1 i)) (by decide : (44 : Nat) ≠ 61) i61
          have a0 : apS S n rc1 i 0 = nI (n + i) := rfl
          have e1 : 1 + apS S n rc1 i 0 = nI (1 + n + i) := by
            rw [a0, show 1 + n + i = 1 + (n + i) by omega]
            exact nI_add 1 (n + i)
          refine Rq_iload_n dX9_parse_20 rfl ?_
          refine Rq_aload_n dX9_parse_21 rfl ?_
          refine Rq_get dX9_parse_22 flX9_235 l43 rfl ?_
          refine Rq_icmp_ge_f 63 dX9_parse_25 (by decide) (nI_ge (a := i) (b := m) (by omega) (by omega)) ?_
          refine Rq_aload_n dX9_parse_28 rfl ?_
          refine Rq_get dX9_parse_29 flX9_7 l43 rfl ?_
          refine Rq_iconst (1) dX9_parse_32 (by decide) ?_
          refine Rq_aload_n dX9_parse_33 rfl ?_
          refine Rq_get dX9_parse_34 flX9_7 l43 rfl ?_
          refine Rq_iconst (0) dX9_parse_37 (by decide) ?_
          refine Rq_iald 0 dX9_parse_38 l44 (by decide) (by decide) rfl ?_
          refine Rq_iadd dX9_parse_39 ?_
          refine Rq_aload_n dX9_parse_40 rfl ?_
          refine Rq_get dX9_parse_41 flX9_62 l43 rfl ?_
          refine Rq_iload_n dX9_parse_44 rfl ?_
          refine Rq_iald i dX9_parse_45 l61 (by omega) (by decide) rfl ?_
          refine Rq_iast (1 + n + i) dX9_parse_46 l44 (by omega) (by decide) e1 ?_
          rw [List.set_set]
          have m43 := hNs (e' := aI 39 (upd (apS S n rc1 i) (1 + n + i) (rc1 i))) (by decide : (44 : Nat) ≠ 43) i43
          have m44 := hS (aI 39 (upd (apS S n rc1 i) (1 + n + i) (rc1 i))) i44
          refine Rq_aload_n dX9_parse_47 rfl ?_
          refine Rq_get dX9_parse_48 flX9_7 m43 rfl ?_
          refine Rq_iconst (0) dX9_parse_51 (by decide) ?_
          refine Rq_dup2 dX9_parse_52 rfl rfl ?_
          refine Rq_iald 0 dX9_parse_53 m44 (by decide) (by decide) rfl ?_
          refine Rq_iconst (1) dX9_parse_54 (by decide) ?_
          refine Rq_iadd dX9_parse_55 ?_
          refine Rq_iast 0 dX9_parse_56 m44 (by decide) (by decide) rfl ?_
          rw [List.set_set, upd_keep (by omega), a0, nI_1, show n + i + 1 = n + (i + 1) by omega, apS_s]
          refine Rq_iinc [_, _, _] (1) dX9_parse_57 rfl (by decide) rfl rfl rfl ?_
          refine Rq_goto 20 dX9_parse_60 (by decide) ?_
          rw [nI_1]
          exact q
      have q := loop m 0 (by omega)
      rw [apS_0 s0, hset_same i44] at q
      refine Rq_iconst (0) dX9_parse_18 (by decide) ?_
      refine Rq_istore_n [_, _, _] dX9_parse_19 rfl rfl rfl ?_
      exact q
    · simp only [if_neg hc] at hq ⊢
      obtain rfl := hq
      exact rx_parse_err (d + 4) (by omega) y
end RF
