/-! rows of both sides: how many, which variable, what hangs together -/
theorem Sm_ph {l l' : List Int32} (h : Sm l l') : ∃ φ : Int32 → Int32, (l.map φ).Perm l' ∧ ∀ c ∈ l, CR c (φ c) := by
  have e : ∀ c ∈ l, CR c (Classical.epsilon (CR c)) := fun c hc => by
    obtain ⟨r, _, hr⟩ := h.2.2.1 c hc
    exact Classical.epsilon_spec ⟨r, hr⟩
  refine ⟨fun c => Classical.epsilon (CR c), (List.perm_ext_iff_of_nodup ?_ (srt_nodup h.2.1.2.2)).mpr (fun r => ?_), e⟩
  · refine List.pairwise_map.mpr ((srt_nodup h.1).imp_of_mem (fun {a b} ha hb hn hz => hn ?_))
    have := e a ha
    rw [hz] at this
    exact CR_c this (e b hb)
  · rw [List.mem_map]
    constructor
    · rintro ⟨c, hc, rfl⟩
      obtain ⟨r, hr, hcr⟩ := h.2.2.1 c hc
      rw [CR_r (e c hc) hcr]
      exact hr
    · intro hr
      obtain ⟨c, hc, hcr⟩ := h.2.2.2 r hr
      exact ⟨c, hc, CR_r (e c hc) hcr⟩
theorem Sm_len {l l' : List Int32} (h : Sm l l') : l.length = l'.length := by
  obtain ⟨φ, p, _⟩ := Sm_ph h
  rw [← p.length_eq, List.length_map]
theorem Sm_cnt {l l' : List Int32} (h : Sm l l') {p q : Int32 → Bool} (hp : ∀ c r, CR c r → p c = q r) : l.countP p = l'.countP q := by
  obtain ⟨φ, e, f⟩ := Sm_ph h
  rw [← e.countP_eq, List.countP_map]
  exact List.countP_congr (fun c hc => by rw [hp c _ (f c hc)]; exact Iff.rfl)
theorem row_ct (q : Int32 → Bool) : ∀ l : List Int32, fb_ct (fun j => q (l.getD j 0)) l.length = l.countP q
  | [] => rfl
  | c :: l => by
    rw [List.length_cons, Nat.add_comm, fb_ct_split, List.countP_cons]
    have e : fb_ct (fun k => q ((c :: l).getD (1 + k) 0)) l.length = l.countP q := by
      rw [← row_ct q l]
      exact fb_ct_cong (fun k _ => by rw [Nat.add_comm]; rfl)
    have e1 : fb_ct (fun j => q ((c :: l).getD j 0)) 1 = if q c = true then 1 else 0 := by
      show 0 + (if q c then 1 else 0) = _
      rw [Nat.zero_add]
    rw [e, Nat.add_comm, e1]
theorem both_b {c r : Int32} (h : CR c r) {v : Nat} (hv : v < 10) : (!(decide (c &&& bothC (v + 1) = 0))) = bt (rVars r) v := by
  rw [rv_bit r hv, ← (h.2.1 v hv).1, ← (h.2.1 v hv).2, Bool.eq_iff_iff, Bool.not_eq_true', decide_eq_false_iff_not, and0_iff, Bool.or_eq_true]
  unfold bothC
  constructor
  · intro z
    apply Decidable.byContradiction
    intro nn
    apply z
    intro b hb hh
    rw [b_or, fb_p v hv b hb, fb_m v hv b hb, Bool.or_eq_true, decide_eq_true_eq, decide_eq_true_eq] at hh
    rcases hh with ⟨h1, rfl | rfl⟩
    · exact nn (Or.inl h1)
    · exact nn (Or.inr h1)
  · rintro (z | z) y
    · exact y (2 * v + 2) (by omega) ⟨z, by rw [b_or, fb_p v hv _ (by omega), decide_eq_true rfl]; rfl⟩
    · exact y (2 * v + 3) (by omega) ⟨z, by rw [b_or, fb_m v hv _ (by omega), decide_eq_true rfl, Bool.or_true]⟩
theorem mfc_eq {l l' : List Int32} (h : Sm l l') {v : Nat} (hv : v < 10) : mfc bothC l (v + 1) = mfN l' v := by
  unfold mfc mfN
  rw [← List.countP_eq_length_filter, Sm_cnt h (q := fun r => bt (rVars r) v) (fun c r e => both_b e hv)]
  exact (row_ct _ l').symm
theorem mf_eq {l l' : List Int32} (h : Sm l l') : ∀ k, k ≤ 10 → (mfv bothC l k).2 = (mfR l' k).2 ∧ (0 < (mfR l' k).2 → (mfv bothC l k).1 = (mfR l' k).1)
  | 0, _ => ⟨rfl, fun z => absurd z (Nat.lt_irrefl 0)⟩
  | k + 1, hk => by
    obtain ⟨h1, h2⟩ := mf_eq h k (by omega)
    unfold mfv mfR
    rw [mfc_eq h (by omega), h1]
    by_cases c : (mfR l' k).2 < mfN l' k
    · rw [if_pos c, if_pos c]
      exact ⟨rfl, fun _ => rfl⟩
    · rw [if_neg c, if_neg c]
      exact ⟨h1, h2⟩
theorem mf_same {l l' : List Int32} (h : Sm l l') (hn : ntR l') : ∃ v, v < 10 ∧ (mfv bothC l 10).1 = v + 1 ∧ (mfR l' 10).1 = v + 1 ∧ occ l' v = true := by
  obtain ⟨v, hv, e, ho⟩ := mf_occ h.2.1 hn
  have p : 0 < (mfR l' 10).2 := by
    obtain ⟨k, hk, hb⟩ := occ_row.mp ho
    have := (mf_spec l' 10).1 v hv
    have : 0 < mfN l' v := fb_ct_pos.mpr ⟨k, hk, hb⟩
    omega
  exact ⟨v, hv, ((mf_eq h 10 (Nat.le_refl _)).2 p).trans e, e, ho⟩
/-! trivial rows -/
theorem CR_nn {c r : Int32} (h : CR c r) : ¬ c < 0 := by
  intro z
  have e : c.toBitVec.msb = true := by
    rw [BitVec.msb_eq_toInt]
    exact decide_eq_true (by have := Int32.lt_iff_toInt_lt.mp z; exact this)
  rw [BitVec.msb_eq_getLsbD_last] at e
  have := h.1 31 (by decide) (Or.inr (by decide))
  unfold bt at this
  rw [this] at e
  cases e
theorem hd_zero {l : List Int32} (s : Srt l) (hn : ∀ c ∈ l, ¬ c < 0) (h0 : (0 : Int32) ∈ l) : l.getD 0 0 = 0 := by
  obtain ⟨j, hj, e⟩ := List.mem_iff_getElem.mp h0
  have := srt_le s (i := 0) (j := j) (Nat.zero_le _) hj
  rw [getD_of hj, e] at this
  have p := hn _ (getD_mem (l := l) (k := 0) (by omega))
  exact Int32.le_antisymm this (Int32.not_lt.mp p)
theorem Sm_nt {l l' : List Int32} (h : Sm l l') : (l.length = 0 ↔ l' = []) ∧ (¬ l.length = 0 → (l.getD 0 0 = 0 ↔ l'.getD 0 0 = 0)) := by
  have e := Sm_len h
  refine ⟨by rw [e]; exact List.length_eq_zero_iff, fun hl => ⟨fun z => ?_, fun z => ?_⟩⟩
  · have m : (0 : Int32) ∈ l := by
      have := getD_mem (l := l) (k := 0) (by omega)
      rwa [z] at this
    obtain ⟨r, hr, hc⟩ := h.2.2.1 0 m
    rw [(CR_z hc).mp rfl] at hr
    exact hd_zero h.2.1.2.2 (fun c hc => vW_pos (h.2.1.2.1 c hc)) hr
  · have m : (0 : Int32) ∈ l' := by
      have := getD_mem (l := l') (k := 0) (by omega)
      rwa [z] at this
    obtain ⟨c, hc, hr⟩ := h.2.2.2 0 m
    rw [(CR_z hr).mpr rfl] at hc
    exact hd_zero h.1 (fun c hc => by obtain ⟨r, _, q⟩ := h.2.2.1 c hc; exact CR_nn q) hc
theorem Sm_ix {l l' : List Int32} (h : Sm l l') {c : Int32} (hc : c ∈ l) : ∃ k, k < l'.length ∧ CR c (l'.getD k 0) := by
  obtain ⟨r, hr, e⟩ := h.2.2.1 c hc
  obtain ⟨k, hk, rfl⟩ := List.mem_iff_getElem.mp hr
  exact ⟨k, hk, by rw [getD_of hk]; exact e⟩
/-! what hangs together -/
def MB (m : Int32) : Prop := ∀ i, i < 32 → (i < 2 ∨ 22 ≤ i ∨ i % 2 = 1) → bt m i = false
def cst (m c : Int32) : Int32 := if fVars c &&& m = 0 then m else m ||| fVars c
theorem cst_sub {m c : Int32} {i : Nat} (h : bt m i = true) : bt (cst m c) i = true := by
  unfold cst
  split
  · exact h
  · rw [b_or, h]; rfl
theorem cpass_sub {l : List Int32} {i : Nat} : ∀ {m : Int32}, bt m i = true → bt (l.foldl cst m) i = true := by
  induction l with
  | nil => exact fun h => h
  | cons c l ih => exact fun h => ih (cst_sub h)
theorem cpass_fix : ∀ {l : List Int32} {m : Int32}, l.foldl cst m = m → ∀ c ∈ l, cst m c = m
  | [], _, _ => fun c hc => by cases hc
  | d :: l, m, h => by
    rw [List.foldl_cons] at h
    have e : cst m d = m := by
      apply b_ext
      intro i hi
      rw [Bool.eq_iff_iff]
      constructor
      · intro z
        rw [← h]
        exact cpass_sub z
      · exact cst_sub
    rw [e] at h
    intro c hc
    rcases List.mem_cons.mp hc with rfl | hc
    · exact e
    · exact cpass_fix h c hc
theorem cst_MB {m : Int32} (h : MB m) (c : Int32) : MB (cst m c) := by
  unfold cst
  split
  · exact h
  · intro i hi o
    rw [b_or, h i hi o, fv_o hi o]
    rfl
theorem cpass_MB : ∀ {l : List Int32} {m : Int32}, MB m → MB (l.foldl cst m)
  | [], _, h => h
  | c :: l, m, h => cpass_MB (l := l) (cst_MB h c)
def cnM (m : Int32) : Nat := fb_ct (fun v => bt m (2 * v + 2)) 10
theorem MB_ext {m m' : Int32} (h : MB m) (h' : MB m') (e : ∀ v, v < 10 → bt m (2 * v + 2) = bt m' (2 * v + 2)) : m = m' := by
  apply b_ext
  intro i hi
  by_cases o : i < 2 ∨ 22 ≤ i ∨ i % 2 = 1
  · rw [h i hi o, h' i hi o]
  · have := e (i / 2 - 1) (by omega)
    rwa [show 2 * (i / 2 - 1) + 2 = i by omega] at this
/-- closed under the clauses that meet it -/
def cld (l : List Int32) (m : Int32) : Prop := ∀ c ∈ l, ¬ fVars c &&& m = 0 → ∀ i, bt (fVars c) i = true → bt m i = true
theorem fix_cld {l : List Int32} {m : Int32} (h : l.foldl cst m = m) : cld l m := by
  intro c hc hm i hi
  have := cpass_fix h c hc
  unfold cst at this
  rw [if_neg hm] at this
  rw [← this, b_or, hi, Bool.or_true]
theorem cvr_cld (l : List Int32) : ∀ (k : Nat) (m : Int32), MB m → 10 < cnM m + k → cld l (cvr fVars l k m)
  | 0, m, _, h => by
    have := fb_ct_le (fun v => bt m (2 * v + 2)) 10
    unfold cnM at h
    omega
  | k + 1, m, hb, h => by
    unfold cvr
    have e : cpass fVars l m = l.foldl cst m := rfl
    rw [e]
    by_cases c : l.foldl cst m = m
    · rw [if_pos c]
      exact fix_cld c
    · rw [if_neg c]
      refine cvr_cld l k _ (cpass_MB hb) ?_
      have : cnM m < cnM (l.foldl cst m) := by
        have ⟨v, hv, h1, h2⟩ : ∃ v, v < 10 ∧ bt m (2 * v + 2) = false ∧ bt (l.foldl cst m) (2 * v + 2) = true := by
          apply Classical.byContradiction
          intro nn
          apply c
          refine MB_ext (cpass_MB hb) hb (fun v hv => ?_)
          cases h1 : bt m (2 * v + 2) with
          | true => exact cpass_sub h1
          | false =>
            cases h2 : bt (l.foldl cst m) (2 * v + 2) with
            | false => rfl
            | true => exact absurd ⟨v, hv, h1, h2⟩ nn
        exact ct_lt hv h1 h2 (fun u _ z => cpass_sub z)
      omega
theorem cvr_sub (l : List Int32) : ∀ (k : Nat) (m : Int32) {i : Nat}, bt m i = true → bt (cvr fVars l k m) i = true
  | 0, _, _, h => h
  | k + 1, m, _, h => by
    unfold cvr
    split
    · exact h
    · exact cvr_sub l k _ (cpass_sub h)
theorem cvr_MB (l : List Int32) : ∀ (k : Nat) (m : Int32), MB m → MB (cvr fVars l k m)
  | 0, _, h => h
  | k + 1, m, h => by
    unfold cvr
    split
    · exact h
    · exact cvr_MB l k _ (cpass_MB h)
/-- each variable of the set is one of a clause that hangs together with clause k0 -/
def VI (l' : List Int32) (k0 : Nat) (m : Int32) : Prop := ∀ v, v < 10 → bt m (2 * v + 2) = true → ∃ k, k < l'.length ∧ CC (vRow l') l'.length k0 k ∧ bt (vRow l' k) v = true
theorem cst_VI {l' : List Int32} {k0 : Nat} {m c : Int32} (h : VI l' k0 m) {k : Nat} (hk : k < l'.length) (e : CR c (l'.getD k 0)) : VI l' k0 (cst m c) := by
  unfold cst
  split
  · exact h
  · next z =>
    rw [fv_and e] at z
    have ⟨v, hv, h1, h2⟩ : ∃ v, v < 10 ∧ bt (rVars (l'.getD k 0)) v = true ∧ bt m (2 * v + 2) = true := by
      apply Classical.byContradiction
      intro nn
      exact z (fun v hv hb => nn ⟨v, hv, hb⟩)
    obtain ⟨k', g1, g2, g3⟩ := h v hv h2
    have cc : CC (vRow l') l'.length k0 k := g2.st hk ⟨v, by omega, g3, h1⟩
    intro u hu hb
    rw [b_or, fv_v e hu, Bool.or_eq_true] at hb
    rcases hb with hb | hb
    · exact h u hu hb
    · exact ⟨k, hk, cc, hb⟩
theorem cpass_VI {l' : List Int32} {k0 : Nat} (p : List Int32) : ∀ (m : Int32), (∀ c ∈ p, ∃ k, k < l'.length ∧ CR c (l'.getD k 0)) → VI l' k0 m → VI l' k0 (p.foldl cst m) := by
  induction p with
  | nil => exact fun m _ h => h
  | cons c p ih =>
    intro m hc h
    obtain ⟨k, hk, e⟩ := hc c List.mem_cons_self
    rw [List.foldl_cons]
    exact ih _ (fun d hd => hc d (List.mem_cons_of_mem _ hd)) (cst_VI h hk e)
theorem cvr_VI {l l' : List Int32} (hs : Sm l l') {k0 : Nat} : ∀ (k : Nat) (m : Int32), VI l' k0 m → VI l' k0 (cvr fVars l k m)
  | 0, _, h => h
  | k + 1, m, h => by
    unfold cvr
    split
    · exact h
    · exact cvr_VI hs k _ (cpass_VI l m (fun c hc => Sm_ix hs hc) h)
theorem cvr_ok {l l' : List Int32} (hs : Sm l l') (h0 : (0 : Int32) ∉ l') {c : Int32} (hc : c ∈ l) {k0 : Nat} (hk : k0 < l'.length) (e : CR c (l'.getD k0 0)) : MB (cvr fVars l 10 (fVars c)) ∧ ∀ v, v < 10 → (bt (cvr fVars l 10 (fVars c)) (2 * v + 2) = true ↔ ∃ k, k < l'.length ∧ CC (vRow l') l'.length k0 k ∧ bt (vRow l' k) v = true) := by
  have mb : MB (fVars c) := fun i hi o => fv_o hi o
  have nz : ∃ v, v < 10 ∧ bt (rVars (l'.getD k0 0)) v = true := nz_var (hs.2.1.2.1 _ (getD_mem hk)) (fun z => h0 (by rw [← z]; exact getD_mem hk))
  have cl : cld l (cvr fVars l 10 (fVars c)) := cvr_cld l 10 _ mb (by
    obtain ⟨v, hv, hb⟩ := nz
    have : 0 < cnM (fVars c) := fb_ct_pos.mpr ⟨v, hv, by rw [fv_v e hv]; exact hb⟩
    omega)
  refine ⟨cvr_MB l 10 _ mb, fun v hv => ⟨fun z => ?_, ?_⟩⟩
  · exact cvr_VI hs 10 (fVars c) (fun u hu hb => ⟨k0, hk, CC.rf, by rw [fv_v e hu] at hb; exact hb⟩) v hv z
  · rintro ⟨k, g1, g2, g3⟩
    have key : ∀ u, u < 10 → bt (vRow l' k) u = true → bt (cvr fVars l 10 (fVars c)) (2 * u + 2) = true := by
      refine CC.ind (P := fun k => ∀ u, u < 10 → bt (vRow l' k) u = true → bt (cvr fVars l 10 (fVars c)) (2 * u + 2) = true) ?_ ?_ g2
      · intro u hu hb
        exact cvr_sub l 10 _ (by rw [fv_v e hu]; exact hb)
      · rintro j k _ ih hk2 ⟨b, hb, b1, b2⟩ u hu hz
        have b10 : b < 10 := by
          rcases Nat.lt_or_ge b 10 with q | q
          · exact q
          · unfold vRow at b1
            rw [rv_big _ q hb] at b1
            cases b1
        obtain ⟨d, hd, hd2⟩ := hs.2.2.2 _ (getD_mem (l := l') hk2)
        have meet : ¬ fVars d &&& cvr fVars l 10 (fVars c) = 0 := by
          rw [fv_and hd2]
          intro z
          exact z b b10 ⟨b2, ih b b10 b1⟩
        exact cl d hd meet _ (by rw [fv_v hd2 hu]; exact hz)
    exact key v hv g3
theorem cvr_meet {l l' : List Int32} (hs : Sm l l') (h0 : (0 : Int32) ∉ l') {c d : Int32} (hc : c ∈ l) {k0 k : Nat} (hk0 : k0 < l'.length) (e0 : CR c (l'.getD k0 0)) (hk : k < l'.length) (e : CR d (l'.getD k 0)) : ¬ fVars d &&& cvr fVars l 10 (fVars c) = 0 ↔ CC (vRow l') l'.length k0 k := by
  obtain ⟨-, h2⟩ := cvr_ok hs h0 hc hk0 e0
  rw [fv_and e]
  constructor
  · intro z
    apply Classical.byContradiction
    intro nn
    apply z
    rintro v hv ⟨b1, b2⟩
    obtain ⟨k', g1, g2, g3⟩ := (h2 v hv).mp b2
    exact nn (g2.st hk ⟨v, by omega, g3, b1⟩)
  · intro cc z
    obtain ⟨v, hv, hb⟩ := nz_var (hs.2.1.2.1 _ (getD_mem hk)) (fun z => h0 (by rw [← z]; exact getD_mem hk))
    exact z v hv ⟨hb, (h2 v hv).mpr ⟨k, hk, cc, hb⟩⟩
theorem orL_b {i : Nat} : ∀ (l : List Int32) (a : Int32), (bt (l.foldl (fun a c => a ||| c) a) i = true ↔ bt a i = true ∨ ∃ c ∈ l, bt c i = true)
  | [], a => by simp
  | c :: l, a => by
    rw [List.foldl_cons, orL_b l, b_or, Bool.or_eq_true]
    constructor
    · rintro ((h | h) | ⟨d, h1, h2⟩)
      · exact Or.inl h
      · exact Or.inr ⟨c, List.mem_cons_self, h⟩
      · exact Or.inr ⟨d, List.mem_cons_of_mem _ h1, h2⟩
    · rintro (h | ⟨d, h1, h2⟩)
      · exact Or.inl (Or.inl h)
      · rcases List.mem_cons.mp h1 with rfl | h1
        · exact Or.inl (Or.inr h2)
        · exact Or.inr ⟨d, h1, h2⟩
theorem orL_v {l l' : List Int32} (hs : Sm l l') {v : Nat} (hv : v < 10) : bt (fVars (orL l)) (2 * v + 2) = true ↔ ∃ k, k < l'.length ∧ bt (vRow l' k) v = true := by
  have e : bt (fVars (orL l)) (2 * v + 2) = (bt (orL l) (2 * v + 2) || bt (orL l) (2 * v + 3)) := by
    rw [fv_bit _ (by omega), decide_eq_true (p := 2 ≤ 2 * v + 2 ∧ 2 * v + 2 < 22) (by omega), decide_eq_true (p := (2 * v + 2) % 2 = 0) (by omega)]
    simp
  have o : ∀ i, bt (orL l) i = true ↔ ∃ c ∈ l, bt c i = true := fun i => (orL_b l 0).trans (by rw [b_0]; simp)
  rw [e, Bool.or_eq_true, o, o]
  constructor
  · rintro (⟨c, h1, h2⟩ | ⟨c, h1, h2⟩)
    · obtain ⟨k, hk, q⟩ := Sm_ix hs h1
      exact ⟨k, hk, by unfold vRow; rw [rv_bit _ hv, ← (q.2.1 v hv).1, h2]; rfl⟩
    · obtain ⟨k, hk, q⟩ := Sm_ix hs h1
      exact ⟨k, hk, by unfold vRow; rw [rv_bit _ hv, ← (q.2.1 v hv).2, h2, Bool.or_true]⟩
  · rintro ⟨k, hk, hb⟩
    obtain ⟨c, hc, q⟩ := hs.2.2.2 _ (getD_mem (l := l') hk)
    unfold vRow at hb
    rw [rv_bit _ hv, ← (q.2.1 v hv).1, ← (q.2.1 v hv).2, Bool.or_eq_true] at hb
    rcases hb with hb | hb
    · exact Or.inl ⟨c, hc, hb⟩
    · exact Or.inr ⟨c, hc, hb⟩
theorem con_iff {l l' : List Int32} (hs : Sm l l') (hn : ntR l') : cvr fVars l 10 (fVars (l.getD 0 0)) = fVars (orL l) ↔ conR l' := by
  have h0 := nt_mem hs.2.1 hn
  have ln := Sm_len hs
  have l0 : 0 < l'.length := List.length_pos_iff.mpr hn.1
  have hd : l.getD 0 0 ∈ l := getD_mem (by omega)
  obtain ⟨k0, hk0, e0⟩ := Sm_ix hs hd
  obtain ⟨mb, ok⟩ := cvr_ok hs h0 hd hk0 e0
  constructor
  · intro z k hk
    have all : ∀ k, k < l'.length → CC (vRow l') l'.length k0 k := fun k hk => by
      obtain ⟨v, hv, hb⟩ := nz_var (hs.2.1.2.1 _ (getD_mem hk)) (fun z => h0 (by rw [← z]; exact getD_mem hk))
      have := (orL_v hs hv).mpr ⟨k, hk, hb⟩
      rw [← z, ok v hv] at this
      obtain ⟨k', g1, g2, g3⟩ := this
      exact g2.st hk ⟨v, by omega, g3, hb⟩
    exact ((all 0 l0).symm hk0).trans (all k hk)
  · intro z
    refine MB_ext mb (fun i hi o => fv_o hi o) (fun v hv => ?_)
    rw [Bool.eq_iff_iff, ok v hv, orL_v hs hv]
    constructor
    · rintro ⟨k, h1, h2, h3⟩
      exact ⟨k, h1, h3⟩
    · rintro ⟨k, h1, h3⟩
      exact ⟨k, h1, ((z k0 hk0).symm l0).trans (z k h1), h3⟩
theorem mk_mask (P : Nat → Prop) : ∀ n, n ≤ 16 → ∃ y : Int32, ∀ k, k < 32 → (bt y k = true ↔ k < n ∧ P k)
  | 0, _ => ⟨0, fun k _ => by rw [b_0]; simp⟩
  | n + 1, hn => by
    obtain ⟨y, hy⟩ := mk_mask P n (by omega)
    by_cases c : P n
    · refine ⟨y ||| (1 : Int32) <<< (nI n &&& 31), fun k hk => ?_⟩
      rw [b_or, one_bit (by omega) hk, Bool.or_eq_true, hy k hk, decide_eq_true_eq]
      constructor
      · rintro (⟨h1, h2⟩ | rfl)
        · exact ⟨by omega, h2⟩
        · exact ⟨by omega, c⟩
      · rintro ⟨h1, h2⟩
        by_cases e : k = n
        · exact Or.inr e
        · exact Or.inl ⟨by omega, h2⟩
    · refine ⟨y, fun k hk => ?_⟩
      rw [hy k hk]
      constructor
      · rintro ⟨h1, h2⟩
        exact ⟨by omega, h2⟩
      · rintro ⟨h1, h2⟩
        by_cases e : k = n
        · rw [e] at h2; exact absurd h2 c
        · exact ⟨by omega, h2⟩
theorem Sm_part {l l' : List Int32} (hs : Sm l l') (h0 : (0 : Int32) ∉ l') {c : Int32} (hc : c ∈ l) {k0 : Nat} (hk0 : k0 < l'.length) (e0 : CR c (l'.getD k0 0)) {y : Int32} (hy : cnOK (vRow l') l'.length k0 y) : Sm (tpC (cvr fVars l 10 (fVars c)) l) (prtR l' y) := by
  have l16 := hs.2.1.1
  obtain ⟨s1, s2⟩ := tpC_ok (cvr fVars l 10 (fVars c)) l
  refine ⟨s1, prtR_VR hs.2.1 y, fun d hd => ?_, fun r hr => ?_⟩
  · obtain ⟨d1, d2⟩ := (s2 d).mp hd
    obtain ⟨k, hk, e⟩ := Sm_ix hs d1
    have cc := (cvr_meet hs h0 hc hk0 e0 hk e).mp d2
    exact ⟨l'.getD k 0, prtR_mem.mpr ⟨k, hk, (hy k (by omega)).mpr ⟨hk, cc⟩, rfl⟩, e⟩
  · obtain ⟨k, hk, hb, rfl⟩ := prtR_mem.mp hr
    have cc := ((hy k (by omega)).mp hb).2
    obtain ⟨d, hd, e⟩ := hs.2.2.2 _ (getD_mem (l := l') hk)
    exact ⟨d, (s2 d).mpr ⟨hd, (cvr_meet hs h0 hc hk0 e0 hk e).mpr cc⟩, e⟩
