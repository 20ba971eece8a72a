/-! ModelSet.keepSatisfying and fill -/
def conb (x : Int32) (c : Nat) : Bool := !(decide (x >>> (nI c &&& 31) &&& 1 = 0))
theorem conb_t {x : Int32} {c : Nat} (h : conb x c = true) : fCon x (nI c) := by simpa [conb, fCon] using h
theorem conb_f {x : Int32} {c : Nat} (h : conb x c = false) : ¬ fCon x (nI c) := by simpa [conb, fCon] using h
/-- the assignments of word i in which one of the literals of codes 2 .. k + 1 of x is true -/
def satw (x : Int32) (i : Nat) : Nat → Int64
  | 0 => 0
  | k + 1 => if conb x (k + 2) then satw x i k ||| lwv (k + 2) i else satw x i k
def orf (g : Nat → Int64) (c i : Nat) : Nat → Int64 := fun j => if j < i then g j ||| lwv c j else g j
theorem orf_s (g : Nat → Int64) (c i : Nat) : vp_updL (orf g c i) i (orf g c i i ||| lwv c i) = orf g c (i + 1) := by
  funext j
  simp only [vp_updL, orf]
  by_cases h1 : j = i
  · subst h1; rw [if_pos rfl, if_neg (Nat.lt_irrefl _), if_pos (by omega)]
  · by_cases h2 : j < i
    · rw [if_neg h1, if_pos h2, if_pos (by omega)]
    · rw [if_neg h1, if_neg h2, if_neg (by omega)]
def andf (f g : Nat → Int64) (i : Nat) : Nat → Int64 := fun j => if j < i then f j &&& g j else f j
theorem andf_s (f g : Nat → Int64) (i : Nat) : vp_updL (andf f g i) i (andf f g i i &&& g i) = andf f g (i + 1) := by
  funext j
  simp only [vp_updL, andf]
  by_cases h1 : j = i
  · subst h1; rw [if_pos rfl, if_neg (Nat.lt_irrefl _), if_pos (by omega)]
  · by_cases h2 : j < i
    · rw [if_neg h1, if_pos h2, if_pos (by omega)]
    · rw [if_neg h1, if_neg h2, if_neg (by omega)]
theorem keep_in (d : Nat) {h : Hp} {g : Nat → Int64} {x : Int32} {c : Nat} {Q : Option Value → Hp → Prop} (h1 : h[32]? = some (.inr (5, [.ref 33, .ref 34]))) (h3 : h[34]? = some (aL 16 g)) (hc1 : 2 ≤ c) (hc : c ≤ 21)
    (K : Rq mX5_keepSatisfying (d + 1) 52 [.ref 32, .int x, .int (nI c), .int (nI 16)] [] (h.set 34 (aL 16 (orf g c 16))) Q) : ∀ (k i : Nat), i + k = 16 → Rq mX5_keepSatisfying (d + 1) 26 [.ref 32, .int x, .int (nI c), .int (nI i)] [] (h.set 34 (aL 16 (orf g c i))) Q := by
  intro k
  induction k with
  | zero =>
    intro i hi
    have e : i = 16 := by omega
    subst e
    refine Rq_iload_n dX5_keepSatisfying_26 rfl ?_
    refine Rq_bipush (16) dX5_keepSatisfying_27 (by decide) ?_
    refine Rq_icmp_ge_t 52 dX5_keepSatisfying_29 (by decide) (nI_le (Nat.le_refl _) (by decide)) ?_
    exact K
  | succ k ih =>
    intro i hi
    have s1 := hNs (e' := aL 16 (orf g c i)) (by decide : (34 : Nat) ≠ 32) h1
    have s3 := hS (aL 16 (orf g c i)) h3
    refine Rq_iload_n dX5_keepSatisfying_26 rfl ?_
    refine Rq_bipush (16) dX5_keepSatisfying_27 (by decide) ?_
    refine Rq_icmp_ge_f 52 dX5_keepSatisfying_29 (by decide) (nI_ge (b := 16) (by omega) (by decide)) ?_
    refine Rq_aload_n dX5_keepSatisfying_32 rfl ?_
    refine Rq_get dX5_keepSatisfying_33 flX5_15 s1 rfl ?_
    refine Rq_iload_n dX5_keepSatisfying_36 rfl ?_
    refine Rq_dup2 dX5_keepSatisfying_37 rfl rfl ?_
    refine Rq_lald i dX5_keepSatisfying_38 s3 (by omega) (by decide) rfl ?_
    refine Rq_iload_n dX5_keepSatisfying_39 rfl ?_
    refine Rq_iload_n dX5_keepSatisfying_40 rfl ?_
    refine Rq_callS [_, _] dX5_keepSatisfying_41 clX5_50 (sp_lw d _ hc1 hc (by omega)) rfl rfl rfl ?_
    refine Rq_lor dX5_keepSatisfying_44 ?_
    refine Rq_last i dX5_keepSatisfying_45 s3 (by omega) (by decide) rfl ?_
    rw [List.set_set, orf_s]
    refine Rq_iinc [_, _, _, _] (1) dX5_keepSatisfying_46 rfl (by decide) rfl rfl rfl ?_
    refine Rq_goto 26 dX5_keepSatisfying_49 (by decide) ?_
    rw [nI_1]
    exact ih (i + 1) (by omega)
theorem keep_out (d : Nat) {h : Hp} {f g : Nat → Int64} {x : Int32} (h1 : h[32]? = some (.inr (5, [.ref 33, .ref 34]))) (h2 : h[33]? = some (aL 16 f)) (h3 : h[34]? = some (aL 16 g)) {Q : Option Value → Hp → Prop} (q : Q none (h.set 33 (aL 16 (andf f g 16)))) : ∀ (k i : Nat), i + k = 16 → Rq mX5_keepSatisfying (d + 1) 60 [.ref 32, .int x, .int (nI i), .retAddr 0] [] (h.set 33 (aL 16 (andf f g i))) Q := by
  intro k
  induction k with
  | zero =>
    intro i hi
    have e : i = 16 := by omega
    subst e
    refine Rq_iload_n dX5_keepSatisfying_60 rfl ?_
    refine Rq_bipush (16) dX5_keepSatisfying_61 (by decide) ?_
    refine Rq_icmp_ge_t 87 dX5_keepSatisfying_63 (by decide) (nI_le (Nat.le_refl _) (by decide)) ?_
    refine Rq_vret dX5_keepSatisfying_87 rfl ?_
    exact q
  | succ k ih =>
    intro i hi
    have s1 := hNs (e' := aL 16 (andf f g i)) (by decide : (33 : Nat) ≠ 32) h1
    have s2 := hS (aL 16 (andf f g i)) h2
    have s3 := hNs (e' := aL 16 (andf f g i)) (by decide : (33 : Nat) ≠ 34) h3
    refine Rq_iload_n dX5_keepSatisfying_60 rfl ?_
    refine Rq_bipush (16) dX5_keepSatisfying_61 (by decide) ?_
    refine Rq_icmp_ge_f 87 dX5_keepSatisfying_63 (by decide) (nI_ge (b := 16) (by omega) (by decide)) ?_
    refine Rq_aload_n dX5_keepSatisfying_66 rfl ?_
    refine Rq_get dX5_keepSatisfying_67 flX5_9 s1 rfl ?_
    refine Rq_iload_n dX5_keepSatisfying_70 rfl ?_
    refine Rq_dup2 dX5_keepSatisfying_71 rfl rfl ?_
    refine Rq_lald i dX5_keepSatisfying_72 s2 (by omega) (by decide) rfl ?_
    refine Rq_aload_n dX5_keepSatisfying_73 rfl ?_
    refine Rq_get dX5_keepSatisfying_74 flX5_15 s1 rfl ?_
    refine Rq_iload_n dX5_keepSatisfying_77 rfl ?_
    refine Rq_lald i dX5_keepSatisfying_78 s3 (by omega) (by decide) rfl ?_
    refine Rq_land dX5_keepSatisfying_79 ?_
    refine Rq_last i dX5_keepSatisfying_80 s2 (by omega) (by decide) rfl ?_
    rw [List.set_set, andf_s]
    refine Rq_iinc [_, _, _, _] (1) dX5_keepSatisfying_81 rfl (by decide) rfl rfl rfl ?_
    refine Rq_goto 60 dX5_keepSatisfying_84 (by decide) ?_
    rw [nI_1]
    exact ih (i + 1) (by omega)
theorem keep_codes (d : Nat) {x : Int32} {f : Nat → Int64} : ∀ (k c : Nat) (h : Hp) (g : Nat → Int64), c + k = 22 → 2 ≤ c → h[32]? = some (.inr (5, [.ref 33, .ref 34])) → h[33]? = some (aL 16 f) → h[34]? = some (aL 16 g) → (∀ j, j < 16 → g j = satw x j (c - 2)) →
    Rq mX5_keepSatisfying (d + 1) 10 [.ref 32, .int x, .int (nI c), .retAddr 0] [] h (fun r h' => r = none ∧ Fr [33, 34] h h' ∧ ∃ f', MI h' f' ∧ ∀ j, j < 16 → f' j = f j &&& satw x j 20) := by
  intro k
  induction k with
  | zero =>
    intro c h g hk hc h1 h2 h3 hg
    have e : c = 22 := by omega
    subst e
    refine Rq_iload_n dX5_keepSatisfying_10 rfl ?_
    refine Rq_bipush (21) dX5_keepSatisfying_11 (by decide) ?_
    refine Rq_icmp_gt_t 58 dX5_keepSatisfying_13 (by decide) (nI_lt (a := 21) (by decide) (by decide)) ?_
    refine Rq_iconst (0) dX5_keepSatisfying_58 (by decide) ?_
    refine Rq_istore_n [_, _, _, _] dX5_keepSatisfying_59 rfl rfl rfl ?_
    have := keep_out d (x := x) (Q := (fun r h' => r = none ∧ Fr [33, 34] h h' ∧ ∃ f', MI h' f' ∧ ∀ j, j < 16 → f' j = f j &&& satw x j 20)) h1 h2 h3 ⟨rfl, Fr.set (by decide), _, ⟨hNs (by decide) h1, hS _ h2, g, hNs (by decide) h3⟩, fun j hj => by rw [andf, if_pos hj, hg j hj]⟩ 16 0 rfl
    rw [show andf f g 0 = f from by funext j; simp [andf], hset_id h2] at this
    exact this
  | succ k ih =>
    intro c h g hk hc h1 h2 h3 hg
    cases hb : conb x c with
    | true =>
      have hg2 : ∀ j, j < 16 → orf g c 16 j = satw x j (c + 1 - 2) := fun j hj => by
        rw [show c + 1 - 2 = (c - 2) + 1 by omega]
        simp only [orf, satw]
        rw [if_pos hj, show c - 2 + 2 = c by omega, hb, if_pos rfl, hg j hj]
      have nxt := (ih (c + 1) (h.set 34 (aL 16 (orf g c 16))) (orf g c 16) (by omega) (by omega) (hNs (by decide) h1) (hNs (by decide) h2) (hS _ h3) hg2).mono (Q' := (fun r h' => r = none ∧ Fr [33, 34] h h' ∧ ∃ f', MI h' f' ∧ ∀ j, j < 16 → f' j = f j &&& satw x j 20)) (fun r h' ⟨y1, y2, y3⟩ => ⟨y1, Fr.trans (Fr.set (by decide)) y2, y3⟩)
      have K52 : Rq mX5_keepSatisfying (d + 1) 52 [.ref 32, .int x, .int (nI c), .int (nI 16)] [] (h.set 34 (aL 16 (orf g c 16))) (fun r h' => r = none ∧ Fr [33, 34] h h' ∧ ∃ f', MI h' f' ∧ ∀ j, j < 16 → f' j = f j &&& satw x j 20) := by
        refine Rq_iinc [_, _, _, _] (1) dX5_keepSatisfying_52 rfl (by decide) rfl rfl rfl ?_
        refine Rq_goto 10 dX5_keepSatisfying_55 (by decide) ?_
        rw [nI_1]
        refine Rq_dead [_, _, _, .retAddr 0] ⟨Or.inr rfl, Or.inr rfl, Or.inr rfl, Or.inl rfl, trivial⟩ ?_
        exact nxt
      have K26 := keep_in d h1 h3 (by omega) (by omega) K52 16 0 rfl
      rw [show orf g c 0 = g from by funext j; simp [orf], hset_id h3] at K26
      refine Rq_iload_n dX5_keepSatisfying_10 rfl ?_
      refine Rq_bipush (21) dX5_keepSatisfying_11 (by decide) ?_
      refine Rq_icmp_gt_f 58 dX5_keepSatisfying_13 (by decide) (nI_nlt (b := c) (a := 21) (by omega) (by decide)) ?_
      refine Rq_iload_n dX5_keepSatisfying_16 rfl ?_
      refine Rq_iload_n dX5_keepSatisfying_17 rfl ?_
      refine Rq_callS [_, _] dX5_keepSatisfying_18 clX5_46 (sp_contains_t d h (conb_t hb)) rfl rfl rfl ?_
      refine Rq_if_eq_f 52 dX5_keepSatisfying_21 (by decide) (by decide) ?_
      refine Rq_iconst (0) dX5_keepSatisfying_24 (by decide) ?_
      refine Rq_istore_n [_, _, _, _] dX5_keepSatisfying_25 rfl rfl rfl ?_
      exact K26
    | false =>
      have hg2 : ∀ j, j < 16 → g j = satw x j (c + 1 - 2) := fun j hj => by
        rw [show c + 1 - 2 = (c - 2) + 1 by omega]
        simp only [satw]
        rw [show c - 2 + 2 = c by omega, hb, if_neg (by decide), hg j hj]
      have nxt := ih (c + 1) h g (by omega) (by omega) h1 h2 h3 hg2
      refine Rq_iload_n dX5_keepSatisfying_10 rfl ?_
      refine Rq_bipush (21) dX5_keepSatisfying_11 (by decide) ?_
      refine Rq_icmp_gt_f 58 dX5_keepSatisfying_13 (by decide) (nI_nlt (b := c) (a := 21) (by omega) (by decide)) ?_
      refine Rq_iload_n dX5_keepSatisfying_16 rfl ?_
      refine Rq_iload_n dX5_keepSatisfying_17 rfl ?_
      refine Rq_callS [_, _] dX5_keepSatisfying_18 clX5_46 (sp_contains_f d h (conb_f hb)) rfl rfl rfl ?_
      refine Rq_if_eq_t 52 dX5_keepSatisfying_21 (by decide) rfl ?_
      refine Rq_iinc [_, _, _, _] (1) dX5_keepSatisfying_52 rfl (by decide) rfl rfl rfl ?_
      refine Rq_goto 10 dX5_keepSatisfying_55 (by decide) ?_
      rw [nI_1]
      exact nxt
theorem sp_keep (d : Nat) {h : Hp} {f : Nat → Int64} (x : Int32) (m : MI h f) : Mq mX5_keepSatisfying (d + 1) [.ref 32, .int x] h (fun r h' => r = none ∧ Fr [33, 34] h h' ∧ ∃ f', MI h' f' ∧ ∀ j, j < 16 → f' j = f j &&& satw x j 20) := by
  obtain ⟨h1, h2, g, h3⟩ := m
  refine Mq_of [_, _, _, _] (by decide +kernel) rfl rfl ?_
  refine Rq_aload_n dX5_keepSatisfying_0 rfl ?_
  refine Rq_get dX5_keepSatisfying_1 flX5_15 h1 rfl ?_
  refine Rq_lconst (0) dX5_keepSatisfying_4 (by decide) ?_
  refine Rq_callSv [_, _] dX5_keepSatisfying_5 clX5_23 (sp_fillL d 0 h3 (by decide)) rfl rfl rfl ?_
  refine Rq_iconst (2) dX5_keepSatisfying_8 (by decide) ?_
  refine Rq_istore_n [_, _, _, _] dX5_keepSatisfying_9 rfl rfl rfl ?_
  refine (keep_codes d 20 2 _ _ rfl (by decide) (hNs (by decide) h1) (hNs (by decide) h2) (hS _ h3) (fun j hj => by simp only [fillf]; rw [if_pos hj]; rfl)).mono ?_
  rintro r h' ⟨y1, y2, y3⟩
  exact ⟨y1, Fr.trans (Fr.set (by decide)) y2, y3⟩
/-- the words behind the first k clauses of cs -/
def clw (cs : Nat → Int32) (j : Nat) : Nat → Int64
  | 0 => -1
  | k + 1 => clw cs j k &&& satw (cs k) j 20
/-- and behind the assumptions of codes 2 .. k + 1 -/
def asw (w : Int64) (as : Int32) (j : Nat) : Nat → Int64
  | 0 => w
  | k + 1 => if conb as (k + 2) then asw w as j k &&& satw ((1 : Int32) <<< (nI (k + 2) &&& 31)) j 20 else asw w as j k
theorem fill_as (d : Nat) {n : Nat} {as : Int32} {ca wa : Nat} {w : Nat → Int64} : ∀ (k c : Nat) (h : Hp) (f : Nat → Int64), c + k = 22 → 2 ≤ c → MI h f → h[1]? = some (obS ca (nI n) as wa) → (∀ j, j < 16 → f j = asw (w j) as j (c - 2)) →
    Rq mX5_fill (d + 2) 37 [.ref 32, .ref 1, .int (nI c)] [] h (fun r h' => r = none ∧ Fr [33, 34] h h' ∧ ∃ f', MI h' f' ∧ ∀ j, j < 16 → f' j = asw (w j) as j 20) := by
  intro k
  induction k with
  | zero =>
    intro c h f hk hc m h1 hf
    have e : c = 22 := by omega
    subst e
    refine Rq_iload_n dX5_fill_37 rfl ?_
    refine Rq_bipush (21) dX5_fill_38 (by decide) ?_
    refine Rq_icmp_gt_t 67 dX5_fill_40 (by decide) (nI_lt (a := 21) (by decide) (by decide)) ?_
    refine Rq_vret dX5_fill_67 rfl ?_
    exact ⟨rfl, Fr.rfl', f, m, hf⟩
  | succ k ih =>
    intro c h f hk hc m h1 hf
    cases hb : conb as c with
    | true =>
      refine Rq_iload_n dX5_fill_37 rfl ?_
      refine Rq_bipush (21) dX5_fill_38 (by decide) ?_
      refine Rq_icmp_gt_f 67 dX5_fill_40 (by decide) (nI_nlt (b := c) (a := 21) (by omega) (by decide)) ?_
      refine Rq_aload_n dX5_fill_43 rfl ?_
      refine Rq_get dX5_fill_44 flX5_43 h1 rfl ?_
      refine Rq_iload_n dX5_fill_47 rfl ?_
      refine Rq_callS [_, _] dX5_fill_48 clX5_46 (sp_contains_t (d + 1) h (conb_t hb)) rfl rfl rfl ?_
      refine Rq_if_eq_f 61 dX5_fill_51 (by decide) (by decide) ?_
      refine Rq_aload_n dX5_fill_54 rfl ?_
      refine Rq_iconst (1) dX5_fill_55 (by decide) ?_
      refine Rq_iload_n dX5_fill_56 rfl ?_
      refine Rq_ishl dX5_fill_57 ?_
      refine Rq_callVq [_] dX5_fill_58 clX5_39 rfl m.1 (sp_keep d ((1 : Int32) <<< (nI c &&& 31)) m) rfl rfl rfl (fun rv h2 hq => ?_)
      obtain ⟨rfl, F, f', m', hf'⟩ := hq
      refine Rq_iinc [_, _, _] (1) dX5_fill_61 rfl (by decide) rfl rfl rfl ?_
      refine Rq_goto 37 dX5_fill_64 (by decide) ?_
      rw [nI_1]
      refine (ih (c + 1) h2 f' (by omega) (by omega) m' (F.at (by decide) h1) (fun j hj => ?_)).mono (fun r h' ⟨y1, y2, y3⟩ => ⟨y1, F.trans y2, y3⟩)
      rw [show c + 1 - 2 = (c - 2) + 1 by omega]
      simp only [asw]
      rw [show c - 2 + 2 = c by omega, hb, if_pos rfl, hf' j hj, hf j hj]
    | false =>
      refine Rq_iload_n dX5_fill_37 rfl ?_
      refine Rq_bipush (21) dX5_fill_38 (by decide) ?_
      refine Rq_icmp_gt_f 67 dX5_fill_40 (by decide) (nI_nlt (b := c) (a := 21) (by omega) (by decide)) ?_
      refine Rq_aload_n dX5_fill_43 rfl ?_
      refine Rq_get dX5_fill_44 flX5_43 h1 rfl ?_
      refine Rq_iload_n dX5_fill_47 rfl ?_
      refine Rq_callS [_, _] dX5_fill_48 clX5_46 (sp_contains_f (d + 1) h (conb_f hb)) rfl rfl rfl ?_
      refine Rq_if_eq_t 61 dX5_fill_51 (by decide) rfl ?_
      refine Rq_iinc [_, _, _] (1) dX5_fill_61 rfl (by decide) rfl rfl rfl ?_
      refine Rq_goto 37 dX5_fill_64 (by decide) ?_
      rw [nI_1]
      refine ih (c + 1) h f (by omega) (by omega) m h1 (fun j hj => ?_)
      rw [show c + 1 - 2 = (c - 2) + 1 by omega]
      simp only [asw]
      rw [show c - 2 + 2 = c by omega, hb, if_neg (by decide), hf j hj]
theorem fill_cl (d : Nat) {n : Nat} {as : Int32} {wa : Nat} {cs : Nat → Int32} (hn : n ≤ 16) : ∀ (k i : Nat) (h : Hp) (f : Nat → Int64), i + k = n → MI h f → h[1]? = some (obS 2 (nI n) as wa) → h[2]? = some (aI 16 cs) → (∀ j, j < 16 → f j = clw cs j i) →
    Rq mX5_fill (d + 2) 12 [.ref 32, .ref 1, .int (nI i)] [] h (fun r h' => r = none ∧ Fr [33, 34] h h' ∧ ∃ f', MI h' f' ∧ ∀ j, j < 16 → f' j = asw (clw cs j n) as j 20) := by
  intro k
  induction k with
  | zero =>
    intro i h f hk m h1 h2 hf
    have e : i = n := by omega
    subst e
    refine Rq_iload_n dX5_fill_12 rfl ?_
    refine Rq_aload_n dX5_fill_13 rfl ?_
    refine Rq_get dX5_fill_14 flX5_29 h1 rfl ?_
    refine Rq_icmp_ge_t 35 dX5_fill_17 (by decide) (nI_le (Nat.le_refl _) (by omega)) ?_
    refine Rq_iconst (2) dX5_fill_35 (by decide) ?_
    refine Rq_istore_n [_, _, _] dX5_fill_36 rfl rfl rfl ?_
    exact fill_as d 20 2 h f rfl (by decide) m h1 (fun j hj => hf j hj)
  | succ k ih =>
    intro i h f hk m h1 h2 hf
    refine Rq_iload_n dX5_fill_12 rfl ?_
    refine Rq_aload_n dX5_fill_13 rfl ?_
    refine Rq_get dX5_fill_14 flX5_29 h1 rfl ?_
    refine Rq_icmp_ge_f 35 dX5_fill_17 (by decide) (nI_ge (by omega) (by omega)) ?_
    refine Rq_aload_n dX5_fill_20 rfl ?_
    refine Rq_aload_n dX5_fill_21 rfl ?_
    refine Rq_iload_n dX5_fill_22 rfl ?_
    refine Rq_callV [_] dX5_fill_23 clX5_35 rfl h1 (sp_clauseAt d h1 h2 (by omega) hn) rfl rfl rfl ?_
    refine Rq_callVq [_] dX5_fill_26 clX5_39 rfl m.1 (sp_keep d (cs i) m) rfl rfl rfl (fun rv h3 hq => ?_)
    obtain ⟨rfl, F, f', m', hf'⟩ := hq
    refine Rq_iinc [_, _, _] (1) dX5_fill_29 rfl (by decide) rfl rfl rfl ?_
    refine Rq_goto 12 dX5_fill_32 (by decide) ?_
    rw [nI_1]
    refine (ih (i + 1) h3 f' (by omega) m' (F.at (by decide) h1) (F.at (by decide) h2) (fun j hj => ?_)).mono (fun r h' ⟨y1, y2, y3⟩ => ⟨y1, F.trans y2, y3⟩)
    rw [hf' j hj, hf j hj]
    rfl
theorem sp_fillM (d : Nat) {h : Hp} {f : Nat → Int64} {n : Nat} {as : Int32} {wa : Nat} {cs : Nat → Int32} (hn : n ≤ 16) (m : MI h f) (h1 : h[1]? = some (obS 2 (nI n) as wa)) (h2 : h[2]? = some (aI 16 cs)) :
    Mq mX5_fill (d + 2) [.ref 32, .ref 1] h (fun r h' => r = none ∧ Fr [33, 34] h h' ∧ ∃ f', MI h' f' ∧ ∀ j, j < 16 → f' j = asw (clw cs j n) as j 20) := by
  obtain ⟨m1, m2, g, m3⟩ := m
  refine Mq_of [_, _, _] (by decide +kernel) rfl rfl ?_
  refine Rq_aload_n dX5_fill_0 rfl ?_
  refine Rq_get dX5_fill_1 flX5_9 m1 rfl ?_
  refine Rq_ldc2 dX5_fill_4 kcX5_21 ?_
  refine Rq_callSv [_, _] dX5_fill_7 clX5_23 (sp_fillL (d + 1) (-1) m2 (by decide)) rfl rfl rfl ?_
  refine Rq_iconst (0) dX5_fill_10 (by decide) ?_
  refine Rq_istore_n [_, _, _] dX5_fill_11 rfl rfl rfl ?_
  refine (fill_cl d hn n 0 _ _ (by omega) ⟨hNs (by decide) m1, hS _ m2, g, hNs (by decide) m3⟩ (hNs (by decide) h1) (hNs (by decide) h2) (fun j hj => by simp only [fillf]; rw [if_pos hj]; rfl)).mono ?_
  rintro r h' ⟨y1, y2, y3⟩
  exact ⟨y1, Fr.trans (Fr.set (by decide)) y2, y3⟩
