/-! the whole text -/
def gRun (full : Int32 → Bool) (bit vars : Int32 → Int32) (n : Nat) (t : Nat → Int32) (room : Nat) : Nat → Nat → Nat → Int32 → (Nat → Int32) → Nat ⊕ (Nat × Int32 × (Nat → Int32))
  | 0, _, k, c, rc => .inr (k, c, rc)
  | f + 1, p, k, c, rc => if p < n then (match gTok full bit vars n t room p k c with
      | .inl e => .inl e
      | .inr (p', c', false) => gRun full bit vars n t room f p' k c' rc
      | .inr (p', c', true) => gRun full bit vars n t room f p' (k + 1) c' (upd rc k c)) else .inr (k, c, rc)
def gRead (full : Int32 → Bool) (bit vars : Int32 → Int32) (n : Nat) (t : Nat → Int32) (room : Nat) (rc : Nat → Int32) : Nat ⊕ (Nat × (Nat → Int32)) :=
  match gRun full bit vars n t room 150 0 0 0 rc with
  | .inl e => .inl e
  | .inr (k, c, rc') => if c = 0 then .inr (k, rc') else .inl n
theorem gTok_inv {full : Int32 → Bool} {bit vars : Int32 → Int32} {n : Nat} {t : Nat → Int32} {room p k p' : Nat} {c c' : Int32} {b : Bool} (hroom : room ≤ 16) (hk : k ≤ 16) (hk2 : ¬ c = 0 → k < 16) (e : gTok full bit vars n t room p k c = .inr (p', c', b)) :
    (b = false → ¬ c' = 0 → k < 16) ∧ (b = true → c' = 0 ∧ k < 16) := by
  unfold gTok at e
  split at e
  · cases e
    exact ⟨fun _ => hk2, fun h => by cases h⟩
  · split at e
    · split at e
      · cases e
      · next z =>
        cases e
        exact ⟨(fun h => by cases h), fun _ => ⟨rfl, hk2 z⟩⟩
    · split at e
      · split at e
        · cases e
        · next hf =>
          cases hg : gLit bit vars n t p c with
          | inl e' => rw [hg] at e; cases e
          | inr w =>
            obtain ⟨p1, c1⟩ := w
            rw [hg] at e
            cases e
            refine ⟨fun _ _ => ?_, fun h => by cases h⟩
            by_cases z : c = 0
            · have : ¬ room ≤ k := fun q => hf (Or.inr ⟨z, q⟩)
              omega
            · exact hk2 z
      · cases e
def RD (h : Hp) : Prop := ∃ (k p c e : Int32) (rc : Nat → Int32), h[23]? = some (.inr (0, [.ref 24, .int k, .int p, .int c, .int e])) ∧ h[24]? = some (aI 16 rc)
theorem TI.fr {T : List Nat} {h h' : Hp} {n : Nat} {t : Nat → Int32} (x : TI h n t) (F : Fr T h h') (h1 : 21 ∉ T) (h2 : 22 ∉ T) : TI h' n t := ⟨F.at h1 x.1, F.at h2 x.2.1, x.2.2⟩
theorem read_end (d : Nat) {h : Hp} {n p k : Nat} {t : Nat → Int32} {c : Int32} {rc : Nat → Int32} (x : TI h n t) (hr : h[23]? = some (obR k p c (-1))) (hc : h[24]? = some (aI 16 rc)) (x2 x3 : Int32) {Q : Option Value → Hp → Prop}
    (q1 : c = 0 → Q (some (.int (-1))) h) (q2 : ¬ c = 0 → Q (some (.int (nI n))) (h.set 23 (obR k p c (nI n)))) : Rq mX0_read d 60 [.ref 23, .ref 21, .int x2, .int x3] [] h Q := by
  by_cases z : c = 0
  · refine Rq_aload_n dX0_read_60 rfl ?_
    refine Rq_get dX0_read_61 flX0_25 hr rfl ?_
    refine Rq_iconst (-1) dX0_read_64 (by decide) ?_
    refine Rq_icmp_ne_f 83 dX0_read_65 (by decide) rfl ?_
    refine Rq_aload_n dX0_read_68 rfl ?_
    refine Rq_get dX0_read_69 flX0_22 hr rfl ?_
    refine Rq_if_eq_t 83 dX0_read_72 (by decide) z ?_
    refine Rq_aload_n dX0_read_83 rfl ?_
    refine Rq_get dX0_read_84 flX0_25 hr rfl ?_
    refine Rq_iret dX0_read_87 rfl ?_
    exact q1 z
  · refine Rq_aload_n dX0_read_60 rfl ?_
    refine Rq_get dX0_read_61 flX0_25 hr rfl ?_
    refine Rq_iconst (-1) dX0_read_64 (by decide) ?_
    refine Rq_icmp_ne_f 83 dX0_read_65 (by decide) rfl ?_
    refine Rq_aload_n dX0_read_68 rfl ?_
    refine Rq_get dX0_read_69 flX0_22 hr rfl ?_
    refine Rq_if_eq_f 83 dX0_read_72 (by decide) z ?_
    refine Rq_aload_n dX0_read_75 rfl ?_
    refine Rq_aload_n dX0_read_76 rfl ?_
    refine Rq_get dX0_read_77 flX0_28 x.1 rfl ?_
    refine Rq_put [_, _, _, _, _] dX0_read_80 fpX0_25 hr rfl (okv_i _) rfl ?_
    refine Rq_aload_n dX0_read_83 rfl ?_
    refine Rq_get dX0_read_84 flX0_25 (hS _ hr) rfl ?_
    refine Rq_iret dX0_read_87 rfl ?_
    exact q2 z
theorem read_err (d : Nat) {h : Hp} {p k e : Nat} {c : Int32} (hr : h[23]? = some (obR k p c (nI e))) (he : e < 1000) (x2 x3 : Int32) {Q : Option Value → Hp → Prop} (q1 : Q (some (.int (nI e))) h) : Rq mX0_read d 60 [.ref 23, .ref 21, .int x2, .int x3] [] h Q := by
  have ne : ¬ nI e = -1 := fun z => by
    have := congrArg Int32.toInt z
    rw [nI_toInt (by omega)] at this
    have h2 : (-1 : Int32).toInt = -1 := by decide
    omega
  refine Rq_aload_n dX0_read_60 rfl ?_
  refine Rq_get dX0_read_61 flX0_25 hr rfl ?_
  refine Rq_iconst (-1) dX0_read_64 (by decide) ?_
  refine Rq_icmp_ne_t 83 dX0_read_65 (by decide) ne ?_
  refine Rq_aload_n dX0_read_83 rfl ?_
  refine Rq_get dX0_read_84 flX0_25 hr rfl ?_
  refine Rq_iret dX0_read_87 rfl ?_
  exact q1
theorem gLit_lt {bit vars : Int32 → Int32} {n : Nat} {t : Nat → Int32} {p : Nat} {c : Int32} (hp : p < n) (hn : n ≤ 150) : (∀ e, gLit bit vars n t p c = .inl e → e < 1000) ∧ (∀ p' c', gLit bit vars n t p c = .inr (p', c') → p < p' ∧ p' ≤ n) := by
  have hq : p ≤ (if t p = 45 then p + 1 else p) ∧ (if t p = 45 then p + 1 else p) ≤ p + 1 := by split <;> omega
  unfold gLit
  generalize (if t p = 45 then p + 1 else p) = q at hq ⊢
  generalize (if t p = 45 then -numv t q (cntD n t q) else numv t q (cntD n t q)) = w
  refine ⟨fun e h => ?_, fun p' c' h => ?_⟩
  · split at h
    · cases h; omega
    · split at h
      · cases h; omega
      · split at h
        · split at h
          · cases h
          · cases h; omega
        · cases h; omega
  · split at h
    · cases h
    · next h0 =>
      split at h
      · cases h
      · next h3 =>
        split at h
        · split at h
          · cases h
            have d1 := cntD_1 h0
            have l3 := cntD_le n t q
            by_cases c1 : cntD n t q = 1
            · have := d1.1; omega
            · have c2 : cntD n t q = 2 := by omega
              have := (cntD_2 c2).1; omega
          · cases h
        · cases h
theorem gTok_lt {full : Int32 → Bool} {bit vars : Int32 → Int32} {n : Nat} {t : Nat → Int32} {room p k : Nat} {c : Int32} (hp : p < n) (hn : n ≤ 150) : (∀ e, gTok full bit vars n t room p k c = .inl e → e < 1000) ∧ (∀ p' c' b, gTok full bit vars n t room p k c = .inr (p', c', b) → p < p' ∧ p' ≤ n) := by
  have hg := gLit_lt (bit := bit) (vars := vars) (t := t) (c := c) hp hn
  unfold gTok
  refine ⟨fun e h => ?_, fun p' c' b h => ?_⟩
  · split at h
    · cases h
    · split at h
      · split at h
        · cases h; omega
        · cases h
      · split at h
        · split at h
          · cases h; omega
          · cases hh : gLit bit vars n t p c with
            | inl e' => rw [hh] at h; cases h; exact hg.1 _ hh
            | inr w => rw [hh] at h; cases h
        · cases h; omega
  · split at h
    · cases h; omega
    · split at h
      · split at h
        · cases h
        · cases h; omega
      · split at h
        · split at h
          · cases h
          · cases hh : gLit bit vars n t p c with
            | inl e' => rw [hh] at h; cases h
            | inr w => obtain ⟨p1, c1⟩ := w; rw [hh] at h; cases h; exact hg.2 _ _ hh
        · cases h
/-- what read leaves -/
def rdPost (h : Hp) (n : Nat) (g : Nat ⊕ (Nat × Int32 × (Nat → Int32))) (r : Option Value) (h' : Hp) : Prop := Fr [23, 24] h h' ∧ RD h' ∧ match g with
  | .inl e => r = some (.int (nI e))
  | .inr (k, c, rc) => (c = 0 → r = some (.int (-1)) ∧ k ≤ 16 ∧ (∃ p, h'[23]? = some (obR k p 0 (-1))) ∧ h'[24]? = some (aI 16 rc)) ∧ (¬ c = 0 → r = some (.int (nI n)))
theorem read_loop (d : Nat) {n room : Nat} {t : Nat → Int32} (hroom : room ≤ 16) : ∀ (f i : Nat) (h : Hp) (p k : Nat) (c : Int32) (rc : Nat → Int32), i + f = 150 → TI h n t → h[23]? = some (obR k p c (-1)) → h[24]? = some (aI 16 rc) → p ≤ n → k ≤ 16 → (¬ c = 0 → k < 16) →
    Rq mX0_read (d + 5) 22 [.ref 23, .ref 21, .int (nI room), .int (nI i)] [] h (rdPost h n (gRun fullC fBit fVars n t room f p k c rc)) := by
  intro f
  induction f with
  | zero =>
    intro i h p k c rc hi x hr hc hp hk hk2
    have e : i = 150 := by omega
    subst e
    refine Rq_iload_n dX0_read_22 rfl ?_
    refine Rq_sipush (150) dX0_read_23 (by decide) ?_
    refine Rq_icmp_ge_t 60 dX0_read_26 (by decide) (nI_le (Nat.le_refl _) (by decide)) ?_
    refine read_end (d + 5) x hr hc _ _ (fun z => ?_) (fun z => ?_)
    · subst z
      exact ⟨Fr.rfl', ⟨_, _, _, _, _, hr, hc⟩, fun _ => ⟨rfl, hk, ⟨p, hr⟩, hc⟩, fun z => absurd rfl z⟩
    · exact ⟨Fr.set (by decide), ⟨_, _, _, _, _, hS _ hr, hNs (by decide) hc⟩, fun q => absurd q z, fun _ => rfl⟩
  | succ f ih =>
    intro i h p k c rc hi x hr hc hp hk hk2
    have hn := x.2.2
    unfold gRun
    by_cases hpn : p < n
    · rw [if_pos hpn]
      refine Rq_iload_n dX0_read_22 rfl ?_
      refine Rq_sipush (150) dX0_read_23 (by decide) ?_
      refine Rq_icmp_ge_f 60 dX0_read_26 (by decide) (nI_ge (b := 150) (by omega) (by decide)) ?_
      refine Rq_aload_n dX0_read_29 rfl ?_
      refine Rq_get dX0_read_30 flX0_19 hr rfl ?_
      refine Rq_aload_n dX0_read_33 rfl ?_
      refine Rq_get dX0_read_34 flX0_28 x.1 rfl ?_
      refine Rq_icmp_ge_f 60 dX0_read_37 (by decide) (nI_ge hpn (by omega)) ?_
      refine Rq_aload_n dX0_read_40 rfl ?_
      refine Rq_get dX0_read_41 flX0_25 hr rfl ?_
      refine Rq_iconst (-1) dX0_read_44 (by decide) ?_
      refine Rq_icmp_ne_f 60 dX0_read_45 (by decide) rfl ?_
      refine Rq_aload_n dX0_read_48 rfl ?_
      refine Rq_aload_n dX0_read_49 rfl ?_
      refine Rq_iload_n dX0_read_50 rfl ?_
      refine Rq_callVv [_, _] dX0_read_51 clX0_33 rfl hr (sp_readToken d x hr hc hpn hk hk2 hroom) rfl rfl rfl ?_
      have hl := gTok_lt (full := fullC) (bit := fBit) (vars := fVars) (t := t) (room := room) (k := k) (c := c) hpn hn
      have hv := fun p' c' b => gTok_inv (full := fullC) (bit := fBit) (vars := fVars) (n := n) (t := t) (room := room) (p := p) (k := k) (p' := p') (c := c) (c' := c') (b := b) hroom hk hk2
      generalize hg : gTok fullC fBit fVars n t room p k c = g at hl hv ⊢
      match g with
      | .inl e =>
        have he := hl.1 e rfl
        have r1 := hS (obR k p c (nI e)) hr
        simp only [tkHeap]
        have ne : ¬ nI e = -1 := fun z => by
          have := congrArg Int32.toInt z
          rw [nI_toInt (by omega)] at this
          have h2 : (-1 : Int32).toInt = -1 := by decide
          omega
        by_cases i1 : i + 1 < 150
        · refine Rq_iinc [_, _, _, _] (1) dX0_read_54 rfl (by decide) rfl rfl rfl ?_
          refine Rq_goto 22 dX0_read_57 (by decide) ?_
          rw [nI_1]
          refine Rq_iload_n dX0_read_22 rfl ?_
          refine Rq_sipush (150) dX0_read_23 (by decide) ?_
          refine Rq_icmp_ge_f 60 dX0_read_26 (by decide) (nI_ge (b := 150) i1 (by decide)) ?_
          refine Rq_aload_n dX0_read_29 rfl ?_
          refine Rq_get dX0_read_30 flX0_19 r1 rfl ?_
          refine Rq_aload_n dX0_read_33 rfl ?_
          refine Rq_get dX0_read_34 flX0_28 (hNs (by decide) x.1) rfl ?_
          refine Rq_icmp_ge_f 60 dX0_read_37 (by decide) (nI_ge hpn (by omega)) ?_
          refine Rq_aload_n dX0_read_40 rfl ?_
          refine Rq_get dX0_read_41 flX0_25 r1 rfl ?_
          refine Rq_iconst (-1) dX0_read_44 (by decide) ?_
          refine Rq_icmp_ne_t 60 dX0_read_45 (by decide) ne ?_
          exact read_err (d + 5) r1 he _ _ ⟨Fr.set (by decide), ⟨_, _, _, _, _, r1, hNs (by decide) hc⟩, rfl⟩
        · refine Rq_iinc [_, _, _, _] (1) dX0_read_54 rfl (by decide) rfl rfl rfl ?_
          refine Rq_goto 22 dX0_read_57 (by decide) ?_
          rw [nI_1]
          refine Rq_iload_n dX0_read_22 rfl ?_
          refine Rq_sipush (150) dX0_read_23 (by decide) ?_
          refine Rq_icmp_ge_t 60 dX0_read_26 (by decide) (nI_le (a := 150) (by omega) (by omega)) ?_
          exact read_err (d + 5) r1 he _ _ ⟨Fr.set (by decide), ⟨_, _, _, _, _, r1, hNs (by decide) hc⟩, rfl⟩
      | .inr (p', c', false) =>
        have he := hl.2 p' c' false rfl
        have r1 := hS (obR k p' c' (-1)) hr
        simp only [tkHeap]
        refine Rq_iinc [_, _, _, _] (1) dX0_read_54 rfl (by decide) rfl rfl rfl ?_
        refine Rq_goto 22 dX0_read_57 (by decide) ?_
        rw [nI_1]
        refine (ih (i + 1) _ p' k c' rc (by omega) (x.fr (T := [23]) (Fr.set (by decide)) (by decide) (by decide)) r1 (hNs (by decide) hc) (by omega) hk ((hv p' c' false rfl).1 rfl)).mono ?_
        rintro r h' ⟨y1, y2, y3⟩
        exact ⟨Fr.trans (Fr.set (by decide)) y1, y2, y3⟩
      | .inr (p', c', true) =>
        have he := hl.2 p' c' true rfl
        obtain ⟨z1, z2⟩ := (hv p' c' true rfl).2 rfl
        have r1 := hS (obR (k + 1) p' c' (-1)) (hNs (e' := aI 16 (upd rc k c)) (by decide : (24 : Nat) ≠ 23) hr)
        simp only [tkHeap]
        refine Rq_iinc [_, _, _, _] (1) dX0_read_54 rfl (by decide) rfl rfl rfl ?_
        refine Rq_goto 22 dX0_read_57 (by decide) ?_
        rw [nI_1]
        refine (ih (i + 1) _ p' (k + 1) c' (upd rc k c) (by omega) (x.fr (T := [23, 24]) (Fr.trans (Fr.set (by decide)) (Fr.set (by decide))) (by decide) (by decide)) r1 (hNs (by decide) (hS _ hc)) (by omega) (by omega) (fun z => absurd z1 z)).mono ?_
        rintro r h' ⟨y1, y2, y3⟩
        exact ⟨Fr.trans (Fr.trans (Fr.set (by decide)) (Fr.set (by decide))) y1, y2, y3⟩
    · rw [if_neg hpn]
      refine Rq_iload_n dX0_read_22 rfl ?_
      refine Rq_sipush (150) dX0_read_23 (by decide) ?_
      refine Rq_icmp_ge_f 60 dX0_read_26 (by decide) (nI_ge (b := 150) (by omega) (by decide)) ?_
      refine Rq_aload_n dX0_read_29 rfl ?_
      refine Rq_get dX0_read_30 flX0_19 hr rfl ?_
      refine Rq_aload_n dX0_read_33 rfl ?_
      refine Rq_get dX0_read_34 flX0_28 x.1 rfl ?_
      refine Rq_icmp_ge_t 60 dX0_read_37 (by decide) (nI_le (by omega) (by omega)) ?_
      refine read_end (d + 5) x hr hc _ _ (fun z => ?_) (fun z => ?_)
      · subst z
        exact ⟨Fr.rfl', ⟨_, _, _, _, _, hr, hc⟩, fun _ => ⟨rfl, hk, ⟨p, hr⟩, hc⟩, fun z => absurd rfl z⟩
      · exact ⟨Fr.set (by decide), ⟨_, _, _, _, _, hS _ hr, hNs (by decide) hc⟩, fun q => absurd q z, fun _ => rfl⟩
theorem sp_read (d : Nat) {h : Hp} {n room : Nat} {t : Nat → Int32} (x : TI h n t) (y : RD h) (hroom : room ≤ 16) : ∃ rc, Mq mX0_read (d + 5) [.ref 23, .ref 21, .int (nI room)] h (rdPost h n (gRun fullC fBit fVars n t room 150 0 0 0 rc)) := by
  obtain ⟨k, p, c, e, rc, hr, hc⟩ := y
  refine ⟨rc, ?_⟩
  refine Mq_of [_, _, _, _] (by decide +kernel) rfl rfl ?_
  refine Rq_aload_n dX0_read_0 rfl ?_
  refine Rq_iconst (0) dX0_read_1 (by decide) ?_
  refine Rq_put [_, _, _, _, _] dX0_read_2 fpX0_15 hr rfl (okv_i _) rfl ?_
  refine Rq_aload_n dX0_read_5 rfl ?_
  refine Rq_iconst (0) dX0_read_6 (by decide) ?_
  refine Rq_put [_, _, _, _, _] dX0_read_7 fpX0_19 (hS _ hr) rfl (okv_i _) rfl ?_
  refine Rq_aload_n dX0_read_10 rfl ?_
  refine Rq_iconst (0) dX0_read_11 (by decide) ?_
  refine Rq_put [_, _, _, _, _] dX0_read_12 fpX0_22 (hS _ (hS _ hr)) rfl (okv_i _) rfl ?_
  refine Rq_aload_n dX0_read_15 rfl ?_
  refine Rq_iconst (-1) dX0_read_16 (by decide) ?_
  refine Rq_put [_, _, _, _, _] dX0_read_17 fpX0_25 (hS _ (hS _ (hS _ hr))) rfl (okv_i _) rfl ?_
  refine Rq_iconst (0) dX0_read_20 (by decide) ?_
  refine Rq_istore_n [_, _, _, _] dX0_read_21 rfl rfl rfl ?_
  rw [List.set_set, List.set_set, List.set_set]
  refine (read_loop d hroom 150 0 _ 0 0 0 rc rfl (x.fr (T := [23]) (Fr.set (by decide)) (by decide) (by decide)) (hS (obR 0 0 0 (-1)) hr) (hNs (by decide) hc) (Nat.zero_le _) (by decide) (fun z => absurd rfl z)).mono ?_
  rintro r h' ⟨y1, y2, y3⟩
  exact ⟨Fr.trans (Fr.set (by decide)) y1, y2, y3⟩
theorem sp_rdClauseAt (d : Nat) {h : Hp} {k i : Nat} {p c e : Int32} {rc : Nat → Int32} (hr : h[23]? = some (.inr (0, [.ref 24, .int (nI k), .int p, .int c, .int e]))) (hc : h[24]? = some (aI 16 rc)) (hi : i < k) (hk : k ≤ 16) : Mx mX0_clauseAt d [.ref 23, .int (nI i)] h (some (.int (rc i))) h := by
  refine Mx_of [_, _] (by decide +kernel) rfl rfl ?_
  refine Rx_iload_n dX0_clauseAt_0 rfl ?_
  refine Rx_if_lt_f 27 dX0_clauseAt_1 (by decide) (nI_pos (by omega)) ?_
  refine Rx_iload_n dX0_clauseAt_4 rfl ?_
  refine Rx_aload_n dX0_clauseAt_5 rfl ?_
  refine Rx_get dX0_clauseAt_6 flX0_15 hr rfl ?_
  refine Rx_icmp_ge_f 27 dX0_clauseAt_9 (by decide) (nI_ge hi (by omega)) ?_
  refine Rx_iload_n dX0_clauseAt_12 rfl ?_
  refine Rx_bipush (16) dX0_clauseAt_13 (by decide) ?_
  refine Rx_icmp_ge_f 27 dX0_clauseAt_15 (by decide) (nI_ge (b := 16) (by omega) (by decide)) ?_
  refine Rx_aload_n dX0_clauseAt_18 rfl ?_
  refine Rx_get dX0_clauseAt_19 flX0_9 hr rfl ?_
  refine Rx_iload_n dX0_clauseAt_22 rfl ?_
  refine Rx_iald i dX0_clauseAt_23 hc (by omega) (by decide) rfl ?_
  refine Rx_goto 28 dX0_clauseAt_24 (by decide) ?_
  exact Rx_iret dX0_clauseAt_28 rfl
