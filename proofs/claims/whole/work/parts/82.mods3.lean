/-! the weighted count and the least model of both sides -/
section SRM
variable {n : Nat} {as : Int32} {cs w S : Nat → Int32}
theorem tb_div {a v : Nat} : (if a.testBit v then 1 else 0) = a / 2 ^ v % 2 := by
  rw [Nat.testBit_eq_decide_div_mod_eq]
  by_cases c : a / 2 ^ v % 2 = 1
  · rw [decide_eq_true c, c]; rfl
  · rw [decide_eq_false c]
    have := Nat.mod_lt (a / 2 ^ v) (show 0 < 2 by decide)
    simp
    omega
theorem pr_lo (h : SR n as cs w S) {g k : Nat} (hk : k < 32) : ∀ v, v ≤ 5 → rPr S (32 * g + k) v = pw w 1 k v
  | 0, _ => rfl
  | v + 1, hv => by
    unfold rPr pw
    have e : (32 * g + k) / 2 ^ v % 2 = k / 2 ^ v % 2 := by
      have hv' : v = 0 ∨ v = 1 ∨ v = 2 ∨ v = 3 ∨ v = 4 := by omega
      rcases hv' with rfl | rfl | rfl | rfl | rfl <;> simp only [Nat.reducePow] <;> omega
    have b := Nat.mod_lt (k / 2 ^ v) (show 0 < 2 by decide)
    rw [pr_lo h hk v (by omega), tb_div, e, show 19 + 2 * v + 1 - k / 2 ^ v % 2 = 17 + (2 * (1 + v) + (1 - k / 2 ^ v % 2)) by omega, h.2.2.2 _ (by omega) (by omega)]
theorem pr_hi (h : SR n as cs w S) {g k : Nat} (hg : g < 32) (hk : k < 32) : ∀ v, v ≤ 5 → rPr S (32 * g + k) (5 + v) = pw w 1 k 5 * pw w 6 g v
  | 0, _ => by
    rw [pr_lo h hk 5 (Nat.le_refl _)]
    show pw w 1 k 5 = pw w 1 k 5 * 1
    rw [Int64.mul_one]
  | v + 1, hv => by
    have e : (32 * g + k) / 2 ^ (5 + v) % 2 = g / 2 ^ v % 2 := by
      have hv' : v = 0 ∨ v = 1 ∨ v = 2 ∨ v = 3 ∨ v = 4 := by omega
      rcases hv' with rfl | rfl | rfl | rfl | rfl <;> simp only [Nat.reducePow, Nat.reduceAdd] <;> omega
    have b := Nat.mod_lt (g / 2 ^ v) (show 0 < 2 by decide)
    have u1 : rPr S (32 * g + k) (5 + (v + 1)) = rPr S (32 * g + k) (5 + v) * (S (19 + 2 * (5 + v) + 1 - (if (32 * g + k).testBit (5 + v) then 1 else 0))).toInt64 := rfl
    have u2 : pw w 6 g (v + 1) = pw w 6 g v * (w (2 * (6 + v) + (1 - g / 2 ^ v % 2))).toInt64 := rfl
    rw [u1, u2]
    rw [pr_hi h hg hk v (by omega), tb_div, e, show 19 + 2 * (5 + v) + 1 - g / 2 ^ v % 2 = 17 + (2 * (6 + v) + (1 - g / 2 ^ v % 2)) by omega, h.2.2.2 _ (by omega) (by omega), Int64.mul_assoc]
theorem wc_part (h : SR n as cs w S) {g : Nat} (hg : g < 32) : ∀ k, k ≤ 32 → rWc S n (32 * g + k) = rWc S n (32 * g) + ptw (gW cs n as) (fun j => pw w 1 j 5) g k * pw w 6 g 5
  | 0, _ => by
    show rWc S n (32 * g) = rWc S n (32 * g) + 0 * pw w 6 g 5
    rw [Int64.zero_mul, Int64.add_zero]
  | k + 1, hk => by
    have m1 : g * 32 + k = 32 * g + k := by omega
    have q := gW_b h (j := (32 * g + k) / 64) (b := (32 * g + k) % 64) (by omega) (by omega)
    rw [show 64 * ((32 * g + k) / 64) + (32 * g + k) % 64 = 32 * g + k by omega] at q
    have u1 : rWc S n (32 * g + (k + 1)) = if rMod S n (32 * g + k) then rWc S n (32 * g + k) + rPr S (32 * g + k) 10 else rWc S n (32 * g + k) := rfl
    rw [u1]
    unfold ptw
    rw [m1, q]
    by_cases c : rMod S n (32 * g + k) = true
    · rw [if_pos c, if_pos c, wc_part h hg k (by omega), pr_hi h hg (by omega) 5 (Nat.le_refl _), Int64.add_mul, Int64.add_assoc]
    · rw [if_neg c, if_neg c, wc_part h hg k (by omega)]
theorem wc_all (h : SR n as cs w S) : ∀ g, g ≤ 32 → rWc S n (32 * g) = ovw (gW cs n as) (fun j => pw w 1 j 5) (fun j => pw w 6 j 5) g
  | 0, _ => rfl
  | g + 1, hg => by
    unfold ovw
    rw [show 32 * (g + 1) = 32 * g + 32 by omega, wc_part h (by omega) 32 (Nat.le_refl _), wc_all h g (by omega)]
theorem wc_eq (h : SR n as cs w S) : wcW cs n as w = rWc S n 1024 := (wc_all h 32 (Nat.le_refl _)).symm
/-! the lowest bit -/
theorem low_bit2 {n : Nat} (h : 0 < n) : ∃ i, n.testBit i = true ∧ (∀ j, j < i → n.testBit j = false) ∧ ∀ j, (n - 1).testBit j = if j < i then true else if j = i then false else n.testBit j := by
  have key : ∀ (k n : Nat), n ≤ k → 0 < n → ∃ i m, n = 2 ^ i * (2 * m + 1) := by
    intro k
    induction k with
    | zero => intro n a b; omega
    | succ k ih =>
      intro n a b
      by_cases c : n % 2 = 1
      · exact ⟨0, n / 2, by omega⟩
      · obtain ⟨i, m, e⟩ := ih (n / 2) (by omega) (by omega)
        refine ⟨i + 1, m, ?_⟩
        rw [Nat.pow_succ, Nat.mul_right_comm, ← e]
        omega
  obtain ⟨i, m, e⟩ := key n n (Nat.le_refl _) h
  have e2 : n = 2 ^ i * (2 * m + 1) + 0 := by omega
  have p : 0 < 2 ^ i := Nat.two_pow_pos i
  have e3 : n - 1 = 2 ^ i * (2 * m) + (2 ^ i - 1) := by
    rw [e, Nat.mul_add, Nat.mul_one]
    omega
  refine ⟨i, ?_, fun j hj => ?_, fun j => ?_⟩
  · rw [e2, Nat.testBit_two_pow_mul_add _ (by omega), if_neg (by omega), Nat.sub_self, Nat.testBit_zero]
    simp
  · rw [e2, Nat.testBit_two_pow_mul_add _ (by omega), if_pos hj, Nat.zero_testBit]
  · rw [e3, Nat.testBit_two_pow_mul_add _ (by omega)]
    by_cases c : j < i
    · rw [if_pos c, if_pos c, Nat.testBit_two_pow_sub_one]
      simp [c]
    · rw [if_neg c, if_neg c]
      by_cases c2 : j = i
      · rw [if_pos c2, c2, Nat.sub_self, Nat.testBit_zero]
        simp
      · rw [if_neg c2, e2, Nat.testBit_two_pow_mul_add _ (by omega), if_neg c]
        obtain ⟨q, hq⟩ : ∃ q, j - i = q + 1 := ⟨j - i - 1, by omega⟩
        rw [hq, Nat.testBit_succ, Nat.testBit_succ, show 2 * m / 2 = m by omega, show (2 * m + 1) / 2 = m by omega]
theorem nI_eq32 {m : Nat} (hm : m < 2 ^ 32) : nI m = 0 ↔ m = 0 := by
  constructor
  · intro z
    have := congrArg (fun q : Int32 => q.toBitVec.toNat) z
    have e : (nI m).toBitVec.toNat = m := by
      show (BitVec.ofNat 32 m).toNat = m
      rw [BitVec.toNat_ofNat, Nat.mod_eq_of_lt hm]
    rw [e] at this
    exact this
  · intro z
    rw [z]
    rfl
theorem tz_ok : ∀ t, t < 32 → tzM (nI (2 ^ t - 1)) = nI t := by decide +kernel
theorem tzI_ok {m : Nat} (hm : m < 2 ^ 32) (h0 : 0 < m) : ∃ t, t < 32 ∧ m.testBit t = true ∧ (∀ j, j < t → m.testBit j = false) ∧ tzI (nI m) = nI t := by
  obtain ⟨t, h1, h2, h3⟩ := low_bit2 h0
  have ht : t < 32 := by
    rcases Nat.lt_or_ge t 32 with c | c
    · exact c
    · rw [Nat.testBit_lt_two_pow (Nat.lt_of_lt_of_le hm (Nat.pow_le_pow_right (by decide) c))] at h1
      cases h1
  refine ⟨t, ht, h1, h2, ?_⟩
  have e1 : nI m - 1 = nI (m - 1) := by
    obtain ⟨q, rfl⟩ : ∃ q, m = q + 1 := ⟨m - 1, by omega⟩
    rw [nI_pred]
    rfl
  have e : (nI m ^^^ (-1)) &&& (nI m - 1) = nI (2 ^ t - 1) := by
    apply b_ext
    intro i hi
    rw [b_and, not_bit _ hi, e1, bt_nI hi, bt_nI hi, bt_nI hi, h3 i, Nat.testBit_two_pow_sub_one]
    by_cases c : i < t
    · rw [if_pos c, h2 i c, decide_eq_true c]; rfl
    · rw [if_neg c, decide_eq_false c]
      by_cases c2 : i = t
      · rw [if_pos c2]; simp
      · rw [if_neg c2]; cases m.testBit i <;> rfl
  unfold tzI
  rw [e, tz_ok t ht]
theorem tzL_ok {x : Int64} (h : ¬ x = 0) : ∃ t, t < 64 ∧ tbL x t = true ∧ (∀ j, j < t → tbL x j = false) ∧ tzL x = nI t := by
  obtain ⟨m, hm, rfl⟩ := wb_of x
  have h0 : 0 < m := by
    rcases Nat.eq_zero_or_pos m with e | e
    · subst e; exact absurd rfl h
    · exact e
  have tb : ∀ i, i < 64 → tbL (lN m) i = m.testBit i := fun i hi => bl_lN hi
  have lo : ∀ i, i < 32 → (m % 2 ^ 32).testBit i = m.testBit i := fun i hi => by rw [Nat.testBit_mod_two_pow]; simp [hi]
  have e1 : (lN m).toInt32 = nI (m % 2 ^ 32) := by
    rw [lN_i]
    apply b_ext
    intro i hi
    rw [bt_nI hi, bt_nI hi, lo i hi]
  unfold tzL
  by_cases c : m % 2 ^ 32 = 0
  · have hq : m / 2 ^ 32 < 2 ^ 32 := by omega
    have e2 : (ushL (lN m) 32).toInt32 = nI (m / 2 ^ 32) := by rw [show ushL (lN m) 32 = lN (m / 2 ^ 32) from lu_shr (k := 32) hm (by decide), lN_i]
    obtain ⟨t, h1, h2, h3, h4⟩ := tzI_ok hq (by omega)
    have hb : ∀ i, (m / 2 ^ 32).testBit i = m.testBit (32 + i) := fun i => by rw [← Nat.shiftRight_eq_div_pow, Nat.testBit_shiftRight]
    refine ⟨32 + t, by omega, ?_, fun j hj => ?_, ?_⟩
    · rw [tb _ (by omega), ← hb]; exact h2
    · rw [tb _ (by omega)]
      by_cases cj : j < 32
      · rw [← lo j cj, c, Nat.zero_testBit]
      · have := h3 (j - 32) (by omega)
        rw [hb, show 32 + (j - 32) = j by omega] at this
        exact this
    · rw [e1, c, if_pos (show nI 0 = 0 from rfl), e2, h4]
      exact nI_add 32 t
  · obtain ⟨t, h1, h2, h3, h4⟩ := tzI_ok (Nat.mod_lt m (by decide : 0 < 2 ^ 32)) (by omega)
    refine ⟨t, by omega, ?_, fun j hj => ?_, ?_⟩
    · rw [tb _ (by omega), ← lo t h1]; exact h2
    · rw [tb _ (by omega), ← lo j (by omega)]; exact h3 j hj
    · rw [e1, if_neg (fun z => c ((nI_eq32 (Nat.mod_lt m (by decide : 0 < 2 ^ 32))).mp z)), h4]
theorem ls_ok (S : Nat → Int32) (n : Nat) : ∀ (k m : Nat), (∃ t, m ≤ t ∧ t < m + k ∧ rMod S n t = true ∧ (∀ j, m ≤ j → j < t → rMod S n j = false) ∧ rLs S n k m = nI t) ∨ ((∀ j, m ≤ j → j < m + k → rMod S n j = false) ∧ rLs S n k m = -1)
  | 0, m => Or.inr ⟨fun j a b => by omega, rfl⟩
  | k + 1, m => by
    unfold rLs
    by_cases c : rMod S n m = true
    · rw [if_pos c]
      exact Or.inl ⟨m, Nat.le_refl _, by omega, c, (fun j a b => by omega), rfl⟩
    · rw [if_neg c]
      have c' : rMod S n m = false := ts_nt c
      rcases ls_ok S n k (m + 1) with ⟨t, h1, h2, h3, h4, h5⟩ | ⟨h1, h2⟩
      · refine Or.inl ⟨t, by omega, by omega, h3, fun j a b => ?_, h5⟩
        by_cases e : j = m
        · rw [e]; exact c'
        · exact h4 j (by omega) b
      · refine Or.inr ⟨fun j a b => ?_, h2⟩
        by_cases e : j = m
        · rw [e]; exact c'
        · exact h1 j (by omega) (by omega)
theorem lw_ok {f : Nat → Int64} {p : Nat → Bool} (h : ∀ j, j < 16 → ∀ b, b < 64 → tbL (f j) b = p (64 * j + b)) : ∀ (k i : Nat), i + k = 16 → (∃ t, 64 * i ≤ t ∧ t < 1024 ∧ p t = true ∧ (∀ j, 64 * i ≤ j → j < t → p j = false) ∧ lstW f k i = nI t) ∨ ((∀ j, 64 * i ≤ j → j < 1024 → p j = false) ∧ lstW f k i = -1)
  | 0, i, hi => Or.inr ⟨fun j a b => by omega, rfl⟩
  | k + 1, i, hi => by
    have pj : ∀ j, 64 * i ≤ j → j < 64 * i + 64 → p j = tbL (f i) (j - 64 * i) := fun j a b => by
      rw [h i (by omega) _ (by omega)]
      exact congrArg p (by omega)
    unfold lstW
    by_cases c : f i = 0
    · rw [if_pos c]
      have z : ∀ j, 64 * i ≤ j → j < 64 * i + 64 → p j = false := fun j a b => by rw [pj j a b, c]; exact tb_0 _
      rcases lw_ok h k (i + 1) (by omega) with ⟨t, h1, h2, h3, h4, h5⟩ | ⟨h1, h2⟩
      · refine Or.inl ⟨t, by omega, by omega, h3, fun j a b => ?_, h5⟩
        by_cases e : j < 64 * i + 64
        · exact z j a e
        · exact h4 j (by omega) b
      · refine Or.inr ⟨fun j a b => ?_, h2⟩
        by_cases e : j < 64 * i + 64
        · exact z j a e
        · exact h1 j (by omega) (by omega)
    · rw [if_neg c]
      obtain ⟨t, h1, h2, h3, h4⟩ := tzL_ok c
      refine Or.inl ⟨64 * i + t, by omega, by omega, ?_, fun j a b => ?_, ?_⟩
      · rw [pj _ (by omega) (by omega), Nat.add_sub_cancel_left]; exact h2
      · rw [pj j a (by omega)]; exact h3 _ (by omega)
      · rw [h4, show (64 : Int32) = nI 64 from rfl, pk_mul, nI_add]
theorem ls_eq (h : SR n as cs w S) : lstW (gW cs n as) 16 0 = rLs S n 1024 0 := by
  have a := lw_ok (p := rMod S n) (fun j hj b hb => gW_b h hj hb) 16 0 rfl
  have b := ls_ok S n 1024 0
  rcases a with ⟨t, h1, h2, h3, h4, h5⟩ | ⟨h1, h2⟩
  · rcases b with ⟨s, g1, g2, g3, g4, g5⟩ | ⟨g1, g2⟩
    · rw [h5, g5]
      have e : t = s := by
        rcases Nat.lt_trichotomy t s with q | q | q
        · rw [g4 t (by omega) q] at h3; cases h3
        · exact q
        · rw [h4 s (by omega) q] at g3; cases g3
      rw [e]
    · rw [g1 t (by omega) (by omega)] at h3
      cases h3
  · rcases b with ⟨s, g1, g2, g3, g4, g5⟩ | ⟨g1, g2⟩
    · rw [h1 s (by omega) (by omega)] at g3
      cases g3
    · rw [h2, g2]
end SRM
