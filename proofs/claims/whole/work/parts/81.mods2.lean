/-! counts of models -/
theorem sum_ct {f : Nat → Int64} {p : Nat → Bool} : ∀ k, k ≤ 16 → (∀ j, j < 16 → ∀ b, b < 64 → tbL (f j) b = p (64 * j + b)) → sumI (fun j => bcL (f j)) k = nI (fb_ct p (64 * k))
  | 0, _, _ => rfl
  | k + 1, hk, h => by
    unfold sumI
    rw [sum_ct k (by omega) h, bcL_pc, nI_add, show 64 * (k + 1) = 64 * k + 64 by omega, fb_ct_split]
    exact congrArg (fun z => nI (fb_ct p (64 * k) + z)) (fb_ct_cong (fun b hb => h k (by omega) b hb))
section SRM
variable {n : Nat} {as : Int32} {cs w S : Nat → Int32}
theorem rHas_0 (m : Nat) : rHas 0 m = true := by
  unfold rHas
  rw [decide_eq_true_eq]
  apply b_ext
  intro i hi
  rw [b_and, b_0]
  rfl
theorem sz_eq (h : SR n as cs w S) : szW cs n as = nI (rBy S n 0) := by
  unfold szW
  rw [sum_ct (p := rMod S n) 16 (Nat.le_refl _) (fun j hj b hb => gW_b h hj hb)]
  unfold rBy
  exact congrArg nI (fb_ct_cong (fun m _ => by rw [rHas_0, Bool.and_true]))
theorem rBy_le (S : Nat → Int32) (n : Nat) (b : Int32) : rBy S n b ≤ 1024 := fb_ct_le _ _
/-- the literals, by sign and variable -/
theorem lit_cases {x : Int32} (h : isLitP x) : ∃ v, v < 10 ∧ (x = nI (v + 1) ∨ x = -nI (v + 1)) := by
  obtain ⟨i, hi, rfl⟩ := lz_cases h.2
  have : ∀ i, i < 21 → ¬ nI i - 10 = 0 → ∃ v, v < 10 ∧ (nI i - 10 = nI (v + 1) ∨ nI i - 10 = -nI (v + 1)) := by
    intro i hi hn
    by_cases a : i < 10
    · refine ⟨9 - i, by omega, Or.inr ?_⟩
      have : ∀ i, i < 10 → nI i - 10 = -nI (9 - i + 1) := by decide
      exact this i a
    · by_cases b : i = 10
      · subst b; exact absurd (by decide) hn
      · refine ⟨i - 11, by omega, Or.inl ?_⟩
        have : ∀ i, i < 21 → 11 ≤ i → nI i - 10 = nI (i - 11 + 1) := by decide
        exact this i hi (by omega)
  exact this i hi h.1
theorem cd_p : ∀ v, v < 10 → cdN (nI (v + 1)) = 2 * v + 2 := by decide +kernel
theorem cd_m : ∀ v, v < 10 → cdN (-nI (v + 1)) = 2 * v + 3 := by decide +kernel
theorem has_one {x : Int32} {m i : Nat} (hm : m < 1024) (hi : i < 32) (h : ∀ j, j < 32 → bt x j = decide (j = i)) : rHas x m = bt (mW m) i := by
  unfold rHas
  rw [Bool.eq_iff_iff, decide_eq_true_eq, and0_iff]
  constructor
  · intro z
    have := z i hi
    rw [h i hi, not_bit _ hi] at this
    cases hh : bt (mW m) i with
    | true => rfl
    | false => rw [hh] at this; exact absurd ⟨by simp, rfl⟩ this
  · intro z j hj hb
    rw [h j hj, decide_eq_true_eq] at hb
    rw [hb.1, not_bit _ hi, z] at hb
    exact Bool.noConfusion hb.2
theorem rHas_l {x : Int32} (h : isLitP x) {m : Nat} (hm : m < 1024) : rHas (rBit x) m = tv m (cdN x) := by
  obtain ⟨v, hv, rfl | rfl⟩ := lit_cases h
  · rw [has_one hm (by omega) (rBit_p v hv), cd_p v hv, tv_p, mW_b hm (by omega), if_pos hv]
  · rw [has_one hm (by omega) (rBit_m v hv), cd_m v hv, tv_m, mW_b hm (by omega), if_neg (by omega), if_pos (by omega), Nat.add_sub_cancel]
theorem sw_gen (h : SR n as cs w S) {c : Nat} (h1 : 2 ≤ c) (h2 : c ≤ 21) : swW cs n as c = nI (fb_ct (fun m => rMod S n m && tv m c) 1024) := by
  unfold swW
  exact sum_ct 16 (Nat.le_refl _) (fun j hj b hb => by rw [tb_and, gW_b h hj hb, lwv_tv h1 h2 hj hb])
theorem sw_eq (h : SR n as cs w S) {x : Int32} (hx : isLitP x) : swW cs n as (cdN x) = nI (rBy S n (rBit x)) := by
  have cr := cdN_rng hx
  rw [sw_gen h cr.1 cr.2]
  unfold rBy
  exact congrArg nI (fb_ct_cong (fun m hm => by rw [rHas_l hx hm]))
/-! implied literals -/
theorem im_bit {v : Nat} (hv : v < 32) (S : Nat → Int32) (n : Nat) (sg : Int32) : ∀ k, (bt (rIm S n sg k) v = true ↔ v < 10 ∧ ∀ m, m < k → rMod S n m = true → bt (if sg = 1 then nI m else nI m ^^^ (-1)) v = true)
  | 0 => by
    unfold rIm
    rw [b_1023 v hv]
    simp
  | k + 1 => by
    have ih := im_bit hv S n sg k
    unfold rIm
    by_cases c : rMod S n k = true
    · rw [if_pos c, b_and, Bool.and_eq_true, ih]
      constructor
      · rintro ⟨⟨h1, h2⟩, h3⟩
        refine ⟨h1, fun m hm hr => ?_⟩
        by_cases e : m = k
        · subst e; exact h3
        · exact h2 m (by omega) hr
      · rintro ⟨h1, h2⟩
        exact ⟨⟨h1, fun m hm => h2 m (by omega)⟩, h2 k (by omega) c⟩
    · rw [if_neg c, ih]
      constructor
      · rintro ⟨h1, h2⟩
        refine ⟨h1, fun m hm hr => ?_⟩
        by_cases e : m = k
        · subst e; exact absurd hr c
        · exact h2 m (by omega) hr
      · rintro ⟨h1, h2⟩
        exact ⟨h1, fun m hm => h2 m (by omega)⟩
theorem imp_bit (g : Nat → Prop) [DecidablePred g] {i : Nat} (hi : i < 32) : ∀ k, k ≤ 10 → (bt (impI g k) i = true ↔ i < k ∧ g (i + 1))
  | 0, _ => by unfold impI; rw [b_0]; simp
  | k + 1, hk => by
    have ih := imp_bit g hi k (by omega)
    have o : bt ((1 : Int32) <<< ((nI (k + 1) - 1) &&& 31)) i = decide (i = k) := by rw [nI_pred]; exact one_bit (by omega) hi
    unfold impI
    by_cases c : g (k + 1)
    · rw [if_pos c, b_or, Bool.or_eq_true, ih, o, decide_eq_true_eq]
      constructor
      · rintro (⟨h1, h2⟩ | h1)
        · exact ⟨by omega, h2⟩
        · subst h1; exact ⟨by omega, c⟩
      · rintro ⟨h1, h2⟩
        by_cases e : i = k
        · exact Or.inr e
        · exact Or.inl ⟨by omega, h2⟩
    · rw [if_neg c, ih]
      constructor
      · rintro ⟨h1, h2⟩
        exact ⟨by omega, h2⟩
      · rintro ⟨h1, h2⟩
        by_cases e : i = k
        · subst e; exact absurd h2 c
        · exact ⟨by omega, h2⟩
theorem sw0 (h : SR n as cs w S) {c : Nat} (h1 : 2 ≤ c) (h2 : c ≤ 21) : swW cs n as c = 0 ↔ ∀ m, m < 1024 → rMod S n m = true → tv m c = false := by
  rw [sw_gen h h1 h2, show (0 : Int32) = nI 0 from rfl, nI_eq (by have := fb_ct_le (fun m => rMod S n m && tv m c) 1024; omega) (by decide), fb_ct_zero]
  constructor
  · intro z m hm hr
    have := z m hm
    rw [hr] at this
    simpa using this
  · intro z m hm
    cases hr : rMod S n m with
    | false => rfl
    | true => rw [z m hm hr]; rfl
theorem im_eq (h : SR n as cs w S) {a : Int32} (ha : a = 1 ∨ a = -1) : impI (fun v => swW cs n as (opp1 a v) = 0) 10 = rIm S n a 1024 := by
  apply b_ext
  intro i hi
  rw [Bool.eq_iff_iff, imp_bit _ hi 10 (Nat.le_refl _), im_bit hi]
  constructor
  · rintro ⟨h1, h2⟩
    refine ⟨h1, fun m hm hr => ?_⟩
    rcases ha with rfl | rfl
    · rw [show opp1 1 (i + 1) = 2 * i + 3 from rfl, sw0 h (by omega) (by omega)] at h2
      have := h2 m hm hr
      rw [tv_m] at this
      rw [if_pos rfl, bt_nI hi]
      simpa using this
    · rw [show opp1 (-1) (i + 1) = 2 * i + 2 from rfl, sw0 h (by omega) (by omega)] at h2
      have := h2 m hm hr
      rw [tv_p] at this
      rw [if_neg (by decide), not_bit _ hi, bt_nI hi, this]
      rfl
  · rintro ⟨h1, h2⟩
    refine ⟨h1, ?_⟩
    rcases ha with rfl | rfl
    · rw [show opp1 1 (i + 1) = 2 * i + 3 from rfl, sw0 h (by omega) (by omega)]
      intro m hm hr
      have := h2 m hm hr
      rw [if_pos rfl, bt_nI hi] at this
      rw [tv_m, this]
      rfl
    · rw [show opp1 (-1) (i + 1) = 2 * i + 2 from rfl, sw0 h (by omega) (by omega)]
      intro m hm hr
      have := h2 m hm hr
      rw [if_neg (by decide), not_bit _ hi, bt_nI hi] at this
      rw [tv_p]
      simpa using this
end SRM
