/-! rows of the reference: members, order, variables -/
theorem b_1023 : ∀ v, v < 32 → bt 1023 v = decide (v < 10) := by decide
theorem rv_bit (c : Int32) {v : Nat} (hv : v < 10) : bt (rVars c) v = (bt c v || bt c (v + 10)) := by
  unfold rVars
  rw [b_and, b_1023 v (by omega), decide_eq_true hv, Bool.and_true, b_or, show (10 : Int32) = nI 10 from rfl, b_sshr 10 (by decide) c (by omega), if_pos (by omega), Nat.add_comm]
theorem rv_big (c : Int32) {v : Nat} (hv : 10 ≤ v) (hv2 : v < 32) : bt (rVars c) v = false := by
  unfold rVars
  rw [b_and, b_1023 v hv2, decide_eq_false (by omega), Bool.and_false]
theorem insR_mem {l : List Int32} {c m : Int32} : m ∈ insR l c ↔ m = c ∨ m ∈ l := by
  unfold insR
  split
  · next h =>
    constructor
    · exact Or.inr
    · rintro (rfl | z)
      · exact h
      · exact z
  · have e : ∀ p, m ∈ l ↔ m ∈ l.take p ∨ m ∈ l.drop p := fun p => by rw [← List.mem_append, List.take_append_drop]
    rw [List.mem_append, List.mem_cons, e (insP l c l.length)]
    constructor
    · rintro (z | z | z)
      · exact Or.inr (Or.inl z)
      · exact Or.inl z
      · exact Or.inr (Or.inr z)
    · rintro (z | z | z)
      · exact Or.inr (Or.inl z)
      · exact Or.inl z
      · exact Or.inr (Or.inr z)
theorem resRk_mem {lit : Int32} {l : List Int32} {m : Int32} : ∀ k, k ≤ l.length → (m ∈ resRk lit l k ↔ ∃ c ∈ l.take k, c &&& rBit lit = 0 ∧ m = c &&& (rBit (-lit) ^^^ (-1)))
  | 0, _ => by simp [resRk]
  | k + 1, hk => by
    have ih := resRk_mem (lit := lit) (l := l) (m := m) k (by omega)
    rw [resRk_s lit l (by omega), take_s l (by omega)]
    split
    · next h =>
      rw [insR_mem, ih]
      constructor
      · rintro (z | ⟨c, h1, h2⟩)
        · exact ⟨_, List.mem_append_right _ (List.mem_singleton.mpr rfl), h, z⟩
        · exact ⟨c, List.mem_append_left _ h1, h2⟩
      · rintro ⟨c, h1, h2, h3⟩
        rcases List.mem_append.mp h1 with z | z
        · exact Or.inr ⟨c, z, h2, h3⟩
        · rw [List.mem_singleton.mp z] at h3
          exact Or.inl h3
    · next h =>
      rw [ih]
      constructor
      · rintro ⟨c, h1, h2⟩
        exact ⟨c, List.mem_append_left _ h1, h2⟩
      · rintro ⟨c, h1, h2, h3⟩
        rcases List.mem_append.mp h1 with z | z
        · exact ⟨c, z, h2, h3⟩
        · rw [List.mem_singleton.mp z] at h2
          exact absurd h2 h
theorem resR_mem {lit : Int32} {l : List Int32} {m : Int32} : m ∈ resR lit l ↔ ∃ c ∈ l, c &&& rBit lit = 0 ∧ m = c &&& (rBit (-lit) ^^^ (-1)) := by
  have := resRk_mem (lit := lit) (l := l) (m := m) l.length (Nat.le_refl _)
  rw [show resRk lit l l.length = resR lit l from by unfold resRk resR; rw [List.take_length], List.take_length] at this
  exact this
theorem prtK_mem {l : List Int32} {y m : Int32} : ∀ k, (m ∈ prtK l y k ↔ ∃ j, j < k ∧ bt y j = true ∧ m = l.getD j 0)
  | 0 => by simp [prtK]
  | k + 1 => by
    have ih := prtK_mem (l := l) (y := y) (m := m) k
    unfold prtK
    split
    · next h =>
      rw [insR_mem, ih]
      constructor
      · rintro (z | ⟨j, h1, h2⟩)
        · exact ⟨k, by omega, h, z⟩
        · exact ⟨j, by omega, h2⟩
      · rintro ⟨j, h1, h2, h3⟩
        by_cases e : j = k
        · subst e; exact Or.inl h3
        · exact Or.inr ⟨j, by omega, h2, h3⟩
    · next h =>
      rw [ih]
      constructor
      · rintro ⟨j, h1, h2⟩
        exact ⟨j, by omega, h2⟩
      · rintro ⟨j, h1, h2, h3⟩
        by_cases e : j = k
        · subst e; exact absurd h2 h
        · exact ⟨j, by omega, h2, h3⟩
/-! order -/
abbrev Srt (l : List Int32) : Prop := l.Pairwise (fun a b => a < b)
theorem insP_hi (l : List Int32) (c : Int32) : ∀ p, p ≤ l.length → ∀ j, insP l c p ≤ j → j < p → c < l.getD j 0
  | 0, _, j, _, h => by omega
  | p + 1, hp, j, h1, h2 => by
    unfold insP at h1
    split at h1
    · next hc =>
      by_cases e : j = p
      · subst e; exact hc
      · exact insP_hi l c p (by omega) j h1 (by omega)
    · omega
theorem insP_lo (l : List Int32) (c : Int32) : ∀ p, 0 < insP l c p → ¬ c < l.getD (insP l c p - 1) 0
  | 0, h => by simp [insP] at h
  | p + 1, h => by
    unfold insP at h ⊢
    split
    · next hc =>
      rw [if_pos hc] at h
      exact insP_lo l c p h
    · next hc => exact hc
theorem getD_of {l : List Int32} {i : Nat} (hi : i < l.length) : l.getD i 0 = l[i] := by
  rw [List.getD_eq_getElem?_getD, List.getElem?_eq_getElem hi]; rfl
theorem i32_lt_of_le_ne {a b : Int32} (h : a ≤ b) (hn : ¬ a = b) : a < b := by
  rw [Int32.lt_iff_toInt_lt]
  rw [Int32.le_iff_toInt_le] at h
  have : ¬ a.toInt = b.toInt := fun z => hn (Int32.toInt_inj.mp z)
  omega
theorem ins_srt {l : List Int32} {c : Int32} (h : Srt l) (hc : c ∉ l) : Srt (l.take (insP l c l.length) ++ c :: l.drop (insP l c l.length)) := by
  have hle := insP_le l c l.length
  have hi := insP_hi l c l.length (Nat.le_refl _)
  have lo := insP_lo l c l.length
  generalize insP l c l.length = p at *
  have hlow : ∀ j, j < p → l.getD j 0 < c := by
    intro j hj
    have h1 := Int32.not_lt.mp (lo (by omega))
    have hm : l.getD (p - 1) 0 ∈ l := getD_mem (by omega)
    have h2 := i32_lt_of_le_ne h1 (fun z => hc (z ▸ hm))
    by_cases e : j = p - 1
    · rw [e]; exact h2
    · have := List.pairwise_iff_getElem.mp h j (p - 1) (by omega) (by omega) (by omega)
      rw [getD_of (by omega)]
      rw [getD_of (by omega)] at h2
      exact Int32.lt_trans this h2
  refine List.pairwise_append.mpr ⟨h.sublist (List.take_sublist _ _), List.pairwise_cons.mpr ⟨fun a ha => ?_, h.sublist (List.drop_sublist _ _)⟩, fun a ha b hb => ?_⟩
  · obtain ⟨j, hj, rfl⟩ := List.getElem_of_mem ha
    rw [List.length_drop] at hj
    rw [List.getElem_drop]
    have := hi (p + j) (by omega) (by omega)
    rw [getD_of (by omega)] at this
    exact this
  · obtain ⟨j, hj, rfl⟩ := List.getElem_of_mem ha
    rw [List.length_take] at hj
    rw [List.getElem_take]
    have h1 := hlow j (by omega)
    rw [getD_of (by omega)] at h1
    rcases List.mem_cons.mp hb with z | z
    · rw [z]; exact h1
    · obtain ⟨q, hq, rfl⟩ := List.getElem_of_mem z
      rw [List.length_drop] at hq
      rw [List.getElem_drop]
      have := hi (p + q) (by omega) (by omega)
      rw [getD_of (by omega)] at this
      exact Int32.lt_trans h1 this
theorem insR_srt {l : List Int32} {c : Int32} (h : Srt l) : Srt (insR l c) := by
  unfold insR
  split
  · exact h
  · next hc => exact ins_srt h hc
theorem resR_srt (lit : Int32) (l : List Int32) : Srt (resR lit l) := by
  have : ∀ k, k ≤ l.length → Srt (resRk lit l k) := by
    intro k
    induction k with
    | zero => intro _; simp [resRk]
    | succ k ih =>
      intro hk
      rw [resRk_s lit l (by omega)]
      split
      · exact insR_srt (ih (by omega))
      · exact ih (by omega)
  have h := this l.length (Nat.le_refl _)
  rw [show resRk lit l l.length = resR lit l from by unfold resRk resR; rw [List.take_length]] at h
  exact h
theorem prtR_srt (l : List Int32) (y : Int32) : Srt (prtR l y) := by
  unfold prtR
  generalize l.length = k
  induction k with
  | zero => exact List.Pairwise.nil
  | succ k ih =>
    unfold prtK
    split
    · exact insR_srt ih
    · exact ih
theorem srt_ext : ∀ {l m : List Int32}, Srt l → Srt m → (∀ c, c ∈ l ↔ c ∈ m) → l = m
  | [], [], _, _, _ => rfl
  | [], b :: m, _, _, h => by have := (h b).mpr List.mem_cons_self; cases this
  | a :: l, [], _, _, h => by have := (h a).mp List.mem_cons_self; cases this
  | a :: l, b :: m, h1, h2, h => by
    obtain ⟨a1, a2⟩ := List.pairwise_cons.mp h1
    obtain ⟨b1, b2⟩ := List.pairwise_cons.mp h2
    have e : a = b := by
      have ha := (h a).mp List.mem_cons_self
      have hb := (h b).mpr List.mem_cons_self
      rcases List.mem_cons.mp ha with z | z
      · exact z
      · rcases List.mem_cons.mp hb with w | w
        · exact w.symm
        · exact absurd (Int32.lt_trans (a1 b w) (b1 a z)) (Int32.lt_irrefl)
    subst e
    rw [srt_ext a2 b2 (fun c => ?_)]
    constructor
    · intro hc
      rcases List.mem_cons.mp ((h c).mp (List.mem_cons_of_mem _ hc)) with z | z
      · subst z; exact absurd (a1 c hc) Int32.lt_irrefl
      · exact z
    · intro hc
      rcases List.mem_cons.mp ((h c).mpr (List.mem_cons_of_mem _ hc)) with z | z
      · subst z; exact absurd (b1 c hc) Int32.lt_irrefl
      · exact z
theorem srt_nodup {l : List Int32} (h : Srt l) : l.Nodup := h.imp (fun a => fun z => by rw [z] at a; exact absurd a Int32.lt_irrefl)
/-! valid rows -/
def VR (l : List Int32) : Prop := l.length ≤ 16 ∧ (∀ c ∈ l, vW c) ∧ Srt l
def ntR (l : List Int32) : Prop := l ≠ [] ∧ ¬ l.getD 0 0 = 0
theorem vW_and {c : Int32} (h : vW c) (x : Int32) : vW (c &&& x) := by
  obtain ⟨k, hk, rfl⟩ := h
  obtain ⟨n, hn, rfl⟩ := wb_of32 x
  rw [nx_and]
  exact ⟨k &&& n, Nat.lt_of_le_of_lt Nat.and_le_left hk, rfl⟩
theorem vW_0 : vW 0 := ⟨0, by decide, rfl⟩
theorem vW_pos {c : Int32} (h : vW c) : ¬ c < 0 := by
  obtain ⟨k, hk, rfl⟩ := h
  exact nI_pos (by omega)
theorem nt_mem {l : List Int32} (h : VR l) (hn : ntR l) : (0 : Int32) ∉ l := by
  intro z
  obtain ⟨j, hj, e⟩ := List.getElem_of_mem z
  have h0 : 0 < l.length := by omega
  by_cases c : j = 0
  · subst c; exact hn.2 (by rw [getD_of h0]; exact e)
  · have := List.pairwise_iff_getElem.mp h.2.2 0 j h0 hj (by omega)
    rw [e] at this
    exact vW_pos (h.2.1 l[0] (List.getElem_mem _)) this
theorem resR_len (lit : Int32) (l : List Int32) : (resR lit l).length ≤ l.length := by
  have := resRk_len lit l l.length (Nat.le_refl _)
  rw [show resRk lit l l.length = resR lit l from by unfold resRk resR; rw [List.take_length]] at this
  exact this
theorem resR_VR {l : List Int32} (h : VR l) (lit : Int32) : VR (resR lit l) := by
  refine ⟨Nat.le_trans (resR_len lit l) h.1, fun m hm => ?_, resR_srt lit l⟩
  obtain ⟨c, hc, -, rfl⟩ := resR_mem.mp hm
  exact vW_and (h.2.1 c hc) _
theorem prtR_mem {l : List Int32} {y m : Int32} : m ∈ prtR l y ↔ ∃ j, j < l.length ∧ bt y j = true ∧ m = l.getD j 0 := prtK_mem l.length
theorem prtR_VR {l : List Int32} (h : VR l) (y : Int32) : VR (prtR l y) := by
  refine ⟨Nat.le_trans (prtK_len l y l.length) h.1, fun m hm => ?_, prtR_srt l y⟩
  obtain ⟨j, hj, -, rfl⟩ := prtR_mem.mp hm
  exact h.2.1 _ (getD_mem hj)
/-! variables -/
def occ (l : List Int32) (v : Nat) : Bool := l.any (fun c => bt (rVars c) v)
def nvR (l : List Int32) : Nat := fb_ct (occ l) 10
theorem occ_iff {l : List Int32} {v : Nat} : occ l v = true ↔ ∃ c ∈ l, bt (rVars c) v = true := List.any_eq_true
theorem occ_row {l : List Int32} {v : Nat} : occ l v = true ↔ ∃ k, k < l.length ∧ bt (vRow l k) v = true := by
  rw [occ_iff]
  constructor
  · rintro ⟨c, hc, h⟩
    obtain ⟨j, hj, e⟩ := List.getElem_of_mem hc
    exact ⟨j, hj, by unfold vRow; rw [getD_of hj, e]; exact h⟩
  · rintro ⟨k, hk, h⟩
    exact ⟨_, getD_mem hk, h⟩
theorem nv_le (l : List Int32) : nvR l ≤ 10 := fb_ct_le _ _
theorem nz_var {c : Int32} (h : vW c) (hn : ¬ c = 0) : ∃ v, v < 10 ∧ bt (rVars c) v = true := by
  apply Classical.byContradiction
  intro hx
  apply hn
  obtain ⟨k, hk, rfl⟩ := h
  apply b_ext
  intro i hi
  rw [b_0]
  apply ts_nt
  intro hb
  have hi20 : i < 20 := by
    apply Decidable.byContradiction
    intro c
    rw [bt_nI hi, Nat.testBit_lt_two_pow (Nat.lt_of_lt_of_le (show k < 2 ^ 20 by omega) (Nat.pow_le_pow_right (by decide) (by omega)))] at hb
    cases hb
  by_cases c : i < 10
  · exact hx ⟨i, c, by rw [rv_bit _ c, hb]; rfl⟩
  · exact hx ⟨i - 10, by omega, by rw [rv_bit _ (by omega), show i - 10 + 10 = i by omega, hb, Bool.or_true]⟩
theorem mf_spec (l : List Int32) : ∀ k, (∀ v, v < k → mfN l v ≤ (mfR l k).2) ∧ (0 < (mfR l k).2 → ∃ v, v < k ∧ (mfR l k).1 = v + 1 ∧ mfN l v = (mfR l k).2)
  | 0 => ⟨fun v hv => by omega, fun h => by simp [mfR] at h⟩
  | k + 1 => by
    obtain ⟨h1, h2⟩ := mf_spec l k
    unfold mfR
    split
    · next c =>
      refine ⟨fun v hv => ?_, fun _ => ⟨k, by omega, rfl, rfl⟩⟩
      by_cases e : v = k
      · subst e; exact Nat.le_refl _
      · have := h1 v (by omega)
        simp only
        omega
    · next c =>
      refine ⟨fun v hv => ?_, fun z => ?_⟩
      · by_cases e : v = k
        · subst e; omega
        · exact h1 v (by omega)
      · obtain ⟨v, z1, z2⟩ := h2 z
        exact ⟨v, by omega, z2⟩
theorem mf_occ {l : List Int32} (h : VR l) (hn : ntR l) : ∃ v, v < 10 ∧ (mfR l 10).1 = v + 1 ∧ occ l v = true := by
  obtain ⟨s1, s2⟩ := mf_spec l 10
  have l0 : 0 < l.length := List.length_pos_iff.mpr hn.1
  obtain ⟨v, hv, hb⟩ := nz_var (h.2.1 _ (getD_mem l0)) hn.2
  have hc : 0 < mfN l v := fb_ct_pos.mpr ⟨0, l0, hb⟩
  have := s1 v hv
  obtain ⟨w, w1, w2, w3⟩ := s2 (by omega)
  refine ⟨w, w1, w2, ?_⟩
  obtain ⟨k, hk, hb⟩ := fb_ct_pos.mp (show 0 < mfN l w by omega)
  exact occ_row.mpr ⟨k, hk, hb⟩
theorem ct_lt {p q : Nat → Bool} {n i : Nat} (hi : i < n) (hp : p i = false) (hq : q i = true) (h : ∀ k, k < n → p k = true → q k = true) : fb_ct p n < fb_ct q n := by
  have u := fb_ct_upd q false hi
  rw [hq] at u
  have : fb_ct p n ≤ fb_ct (fun k => if k = i then false else q k) n := fb_ct_sub (fun k hk hpk => by
    by_cases e : k = i
    · subst e; rw [hp] at hpk; cases hpk
    · rw [if_neg e]; exact h k hk hpk)
  rw [if_pos rfl, if_neg (by decide)] at u
  omega
theorem rBit_p : ∀ v, v < 10 → ∀ i, i < 32 → bt (rBit (nI (v + 1))) i = decide (i = v) := by decide +kernel
theorem rBit_m : ∀ v, v < 10 → ∀ i, i < 32 → bt (rBit (-nI (v + 1))) i = decide (i = v + 10) := by decide +kernel
theorem and_bit {c x : Int32} {i : Nat} (hi : i < 32) (h : ∀ j, j < 32 → bt x j = decide (j = i)) : c &&& x = 0 ↔ bt c i = false := by
  rw [and0_iff]
  constructor
  · intro z
    apply ts_nt
    intro w
    exact z i hi ⟨w, by rw [h i hi]; simp⟩
  · intro z b hb ⟨w1, w2⟩
    rw [h b hb, decide_eq_true_eq] at w2
    subst w2
    rw [z] at w1
    cases w1
theorem not_bit (x : Int32) {i : Nat} (hi : i < 32) : bt (x ^^^ (-1)) i = !bt x i := by
  rw [b_xor, b_m1 i hi]
  cases bt x i <;> rfl
/-- a variable set: it is gone, no other is new -/
theorem res_occ {l : List Int32} {v w : Nat} (hv : v < 10) (hw : w < 10) {lit : Int32} (hl : lit = nI (v + 1) ∨ lit = -nI (v + 1)) (h : occ (resR lit l) w = true) : occ l w = true ∧ w ≠ v := by
  obtain ⟨m, hm, hb⟩ := occ_iff.mp h
  obtain ⟨c, hc, h1, rfl⟩ := resR_mem.mp hm
  have en : ∀ v : Nat, v < 10 → -(-nI (v + 1)) = nI (v + 1) := by decide
  rw [rv_bit _ hw, Bool.or_eq_true, b_and, b_and, Bool.and_eq_true, Bool.and_eq_true, not_bit _ (by omega), not_bit _ (by omega)] at hb
  refine ⟨occ_iff.mpr ⟨c, hc, by rw [rv_bit _ hw, Bool.or_eq_true]; exact hb.imp And.left And.left⟩, ?_⟩
  intro e
  subst e
  rcases hl with rfl | rfl
  · rw [rBit_m w hv _ (by omega), rBit_m w hv _ (by omega)] at hb
    rw [and_bit (by omega) (rBit_p w hv)] at h1
    rcases hb with ⟨z, _⟩ | ⟨_, z⟩
    · rw [h1] at z; cases z
    · simp at z
  · rw [en w hv, rBit_p w hv _ (by omega), rBit_p w hv _ (by omega)] at hb
    rw [and_bit (by omega) (rBit_m w hv)] at h1
    rcases hb with ⟨_, z⟩ | ⟨z, _⟩
    · simp at z
    · rw [h1] at z; cases z
theorem res_nv {l : List Int32} {v : Nat} (hv : v < 10) (ho : occ l v = true) {lit : Int32} (hl : lit = nI (v + 1) ∨ lit = -nI (v + 1)) : nvR (resR lit l) < nvR l := by
  refine ct_lt hv (ts_nt (fun z => (res_occ hv hv hl z).2 rfl)) ho (fun w hw z => (res_occ hv hw hl z).1)
