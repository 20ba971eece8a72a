/-! the models of both sides -/
/-- whether the literal of a code is true in assignment m -/
def tv (m c : Nat) : Bool := if c % 2 = 0 then m.testBit (c / 2 - 1) else !m.testBit (c / 2 - 1)
theorem lwv_tv' : ∀ c, c < 20 → ∀ j, j < 16 → ∀ b, b < 64 → tbL (lwv (c + 2) j) b = tv (64 * j + b) (c + 2) := by decide +kernel
theorem lwv_tv {c j b : Nat} (h1 : 2 ≤ c) (h2 : c ≤ 21) (hj : j < 16) (hb : b < 64) : tbL (lwv c j) b = tv (64 * j + b) c := by
  have := lwv_tv' (c - 2) (by omega) j hj b hb
  rwa [show c - 2 + 2 = c by omega] at this
def sB (x : Int32) (m : Nat) : Nat → Bool
  | 0 => false
  | k + 1 => sB x m k || (bt x (k + 2) && tv m (k + 2))
theorem conb_bt (x : Int32) {c : Nat} (hc : c < 32) : conb x c = bt x c := by
  unfold conb
  have := shr1_iff x hc
  cases h : bt x c with
  | false => rw [decide_eq_true (this.mpr h)]; rfl
  | true => rw [decide_eq_false (fun z => by rw [this.mp z] at h; cases h)]; rfl
theorem tb_0 (b : Nat) : tbL 0 b = false := bl_0 b
theorem tb_or (x y : Int64) (b : Nat) : tbL (x ||| y) b = (tbL x b || tbL y b) := bl_or x y b
theorem tb_and (x y : Int64) (b : Nat) : tbL (x &&& y) b = (tbL x b && tbL y b) := bl_and x y b
theorem tb_m1 {b : Nat} (hb : b < 64) : tbL (-1) b = true := by
  have : ∀ b, b < 64 → tbL (-1) b = true := by decide
  exact this b hb
theorem satw_b (x : Int32) {j b : Nat} (hj : j < 16) (hb : b < 64) : ∀ k, k ≤ 20 → tbL (satw x j k) b = sB x (64 * j + b) k
  | 0, _ => tb_0 b
  | k + 1, hk => by
    unfold satw sB
    rw [conb_bt x (by omega)]
    cases bt x (k + 2) with
    | false => rw [Bool.false_and, Bool.or_false, if_neg (by decide)]; exact satw_b x hj hb k (by omega)
    | true => rw [Bool.true_and, if_pos rfl, tb_or, satw_b x hj hb k (by omega), lwv_tv (by omega) (by omega) hj hb]
theorem sB_iff (x : Int32) (m : Nat) : ∀ k, (sB x m k = true ↔ ∃ i, i < k ∧ bt x (i + 2) = true ∧ tv m (i + 2) = true)
  | 0 => by simp [sB]
  | k + 1 => by
    unfold sB
    rw [Bool.or_eq_true, sB_iff x m k, Bool.and_eq_true]
    constructor
    · rintro (⟨i, h1, h2⟩ | h)
      · exact ⟨i, by omega, h2⟩
      · exact ⟨k, by omega, h⟩
    · rintro ⟨i, h1, h2⟩
      by_cases e : i = k
      · subst e; exact Or.inr h2
      · exact Or.inl ⟨i, by omega, h2⟩
theorem mW_b {m i : Nat} (hm : m < 1024) (hi : i < 32) : bt (mW m) i = if i < 10 then m.testBit i else if i < 20 then !m.testBit (i - 10) else false := by
  unfold mW
  have q : bt ((1023 &&& (nI m ^^^ (-1))) <<< ((10 : Int32) &&& 31)) i = (decide (10 ≤ i) && bt (1023 &&& (nI m ^^^ (-1))) (i - 10)) := b_shl 10 (by decide) _ hi
  rw [b_or, q, b_and, not_bit _ (by omega), b_1023 _ (by omega), bt_nI hi, bt_nI (by omega)]
  by_cases a : i < 10
  · rw [if_pos a, decide_eq_false (p := 10 ≤ i) (by omega)]; simp
  · rw [if_neg a, decide_eq_true (p := 10 ≤ i) (by omega), Nat.testBit_lt_two_pow (Nat.lt_of_lt_of_le hm (Nat.pow_le_pow_right (n := 2) (i := 10) (by decide) (by omega)))]
    by_cases c : i < 20
    · rw [if_pos c, decide_eq_true (p := i - 10 < 10) (by omega)]; simp
    · rw [if_neg c, decide_eq_false (p := i - 10 < 10) (by omega)]; simp
theorem tv_p (m v : Nat) : tv m (2 * v + 2) = m.testBit v := by
  unfold tv
  rw [if_pos (by omega), show (2 * v + 2) / 2 - 1 = v by omega]
theorem tv_m (m v : Nat) : tv m (2 * v + 3) = !m.testBit v := by
  unfold tv
  rw [if_neg (by omega), show (2 * v + 3) / 2 - 1 = v by omega]
theorem cl_b {c r : Int32} (h : CR c r) {m : Nat} (hm : m < 1024) : sB c m 20 = !(decide (r &&& mW m = 0)) := by
  rw [Bool.eq_iff_iff, sB_iff, Bool.not_eq_true', decide_eq_false_iff_not, and0_iff]
  constructor
  · rintro ⟨i, h1, h2, h3⟩ z
    by_cases e : i % 2 = 0
    · have hv : i + 2 = 2 * (i / 2) + 2 := by omega
      rw [hv] at h2 h3
      rw [(h.2.1 (i / 2) (by omega)).1] at h2
      rw [tv_p] at h3
      exact z (i / 2) (by omega) ⟨h2, by rw [mW_b hm (by omega), if_pos (by omega)]; exact h3⟩
    · have hv : i + 2 = 2 * (i / 2) + 3 := by omega
      rw [hv] at h2 h3
      rw [(h.2.1 (i / 2) (by omega)).2] at h2
      rw [tv_m] at h3
      exact z (i / 2 + 10) (by omega) ⟨h2, by rw [mW_b hm (by omega), if_neg (by omega), if_pos (by omega), Nat.add_sub_cancel]; exact h3⟩
  · intro z
    apply Decidable.byContradiction
    intro n
    apply z
    intro i hi hb
    apply n
    rw [mW_b hm hi] at hb
    by_cases a : i < 10
    · rw [if_pos a] at hb
      exact ⟨2 * i, by omega, by rw [(h.2.1 i a).1]; exact hb.1, by rw [tv_p]; exact hb.2⟩
    · rw [if_neg a] at hb
      by_cases c : i < 20
      · rw [if_pos c] at hb
        refine ⟨2 * (i - 10) + 1, by omega, ?_, ?_⟩
        · rw [show 2 * (i - 10) + 1 + 2 = 2 * (i - 10) + 3 by omega, (h.2.1 (i - 10) (by omega)).2, show i - 10 + 10 = i by omega]
          exact hb.1
        · rw [show 2 * (i - 10) + 1 + 2 = 2 * (i - 10) + 3 by omega, tv_m]
          exact hb.2
      · rw [if_neg c] at hb
        exact Bool.noConfusion hb.2
/-- the assumptions -/
def AR (as t f : Int32) : Prop := (∀ i, i < 32 → (i < 2 ∨ 22 ≤ i) → bt as i = false) ∧ (∀ v, v < 10 → bt as (2 * v + 2) = bt t v ∧ bt as (2 * v + 3) = bt f v) ∧ (∀ i, i < 32 → 10 ≤ i → bt t i = false ∧ bt f i = false) ∧ ∀ i, i < 32 → ¬ (bt t i = true ∧ bt f i = true)
def aB (as : Int32) (m : Nat) : Nat → Bool
  | 0 => true
  | k + 1 => aB as m k && (!bt as (k + 2) || tv m (k + 2))
theorem sB_one' : ∀ c, c < 20 → ∀ i, i < 20 → bt ((1 : Int32) <<< (nI (c + 2) &&& 31)) (i + 2) = decide (i = c) := by decide +kernel
theorem sB_one {c m : Nat} (hc : c < 20) : sB ((1 : Int32) <<< (nI (c + 2) &&& 31)) m 20 = tv m (c + 2) := by
  rw [Bool.eq_iff_iff, sB_iff]
  constructor
  · rintro ⟨i, h1, h2, h3⟩
    rw [sB_one' c hc i h1, decide_eq_true_eq] at h2
    subst h2
    exact h3
  · intro z
    exact ⟨c, hc, by rw [sB_one' c hc c hc]; simp, z⟩
theorem asw_b (w : Int64) (as : Int32) {j b : Nat} (hj : j < 16) (hb : b < 64) : ∀ k, k ≤ 20 → tbL (asw w as j k) b = (tbL w b && aB as (64 * j + b) k)
  | 0, _ => by unfold asw aB; rw [Bool.and_true]
  | k + 1, hk => by
    unfold asw aB
    rw [conb_bt as (by omega)]
    cases bt as (k + 2) with
    | false => rw [if_neg (by decide), asw_b w as hj hb k (by omega)]; simp
    | true => rw [if_pos rfl, tb_and, asw_b w as hj hb k (by omega), satw_b _ hj hb 20 (Nat.le_refl _), sB_one (by omega)]; simp [Bool.and_assoc]
theorem aB_iff (as : Int32) (m : Nat) : ∀ k, (aB as m k = true ↔ ∀ i, i < k → bt as (i + 2) = true → tv m (i + 2) = true)
  | 0 => by simp [aB]
  | k + 1 => by
    unfold aB
    rw [Bool.and_eq_true, aB_iff as m k]
    constructor
    · rintro ⟨h1, h2⟩ i hi hb
      by_cases e : i = k
      · subst e; rw [hb] at h2; simpa using h2
      · exact h1 i (by omega) hb
    · intro h
      refine ⟨fun i hi hb => h i (by omega) hb, ?_⟩
      have := h k (by omega)
      cases hh : bt as (k + 2) with
      | false => rfl
      | true => rw [this hh]; rfl
theorem as_b {as t f : Int32} (h : AR as t f) {m : Nat} (hm : m < 1024) : aB as m 20 = (decide (nI m &&& f = 0) && decide (t &&& (nI m ^^^ (-1)) = 0)) := by
  rw [Bool.eq_iff_iff, aB_iff, Bool.and_eq_true, decide_eq_true_eq, decide_eq_true_eq, and0_iff, and0_iff]
  constructor
  · intro z
    refine ⟨fun i hi hb => ?_, fun i hi hb => ?_⟩
    · by_cases a : i < 10
      · have := z (2 * i + 1) (by omega) (by rw [show 2 * i + 1 + 2 = 2 * i + 3 by omega, (h.2.1 i a).2]; exact hb.2)
        rw [show 2 * i + 1 + 2 = 2 * i + 3 by omega, tv_m, ← bt_nI hi, hb.1] at this
        cases this
      · rw [(h.2.2.1 i hi (by omega)).2] at hb
        exact Bool.noConfusion hb.2
    · by_cases a : i < 10
      · have := z (2 * i) (by omega) (by rw [(h.2.1 i a).1]; exact hb.1)
        rw [tv_p, ← bt_nI hi] at this
        rw [not_bit _ hi, this] at hb
        exact Bool.noConfusion hb.2
      · rw [(h.2.2.1 i hi (by omega)).1] at hb
        exact Bool.noConfusion hb.1
  · rintro ⟨z1, z2⟩ i hi hb
    by_cases e : i % 2 = 0
    · have hv : i + 2 = 2 * (i / 2) + 2 := by omega
      rw [hv] at hb ⊢
      rw [(h.2.1 (i / 2) (by omega)).1] at hb
      rw [tv_p]
      have := z2 (i / 2) (by omega)
      rw [not_bit _ (by omega), bt_nI (by omega), hb] at this
      cases hh : m.testBit (i / 2) with
      | true => rfl
      | false => rw [hh] at this; exact absurd ⟨rfl, rfl⟩ this
    · have hv : i + 2 = 2 * (i / 2) + 3 := by omega
      rw [hv] at hb ⊢
      rw [(h.2.1 (i / 2) (by omega)).2] at hb
      rw [tv_m]
      have := z1 (i / 2) (by omega)
      rw [bt_nI (by omega), hb] at this
      cases hh : m.testBit (i / 2) with
      | false => rfl
      | true => rw [hh] at this; exact absurd ⟨rfl, rfl⟩ this
/-- the formula of both sides -/
def SR (n : Nat) (as : Int32) (cs w : Nat → Int32) (S : Nat → Int32) : Prop := S 0 = nI n ∧ (∀ i, i < n → CR (cs i) (S (1 + i))) ∧ AR as (S 17) (S 18) ∧ ∀ c, 2 ≤ c → c ≤ 21 → S (17 + c) = w c
theorem clw_b {n : Nat} {cs S : Nat → Int32} {j b : Nat} (hj : j < 16) (hb : b < 64) : ∀ k, (∀ i, i < k → CR (cs i) (S (1 + i))) → tbL (clw cs j k) b = rCl S (64 * j + b) k
  | 0, _ => tb_m1 hb
  | k + 1, h => by
    unfold clw rCl
    rw [tb_and, clw_b (n := n) hj hb k (fun i hi => h i (by omega)), satw_b _ hj hb 20 (Nat.le_refl _), cl_b (h k (by omega)) (by omega)]
theorem gW_b {n : Nat} {as : Int32} {cs w S : Nat → Int32} (h : SR n as cs w S) {j b : Nat} (hj : j < 16) (hb : b < 64) : tbL (gW cs n as j) b = rMod S n (64 * j + b) := by
  unfold gW rMod
  rw [asw_b _ _ hj hb 20 (Nat.le_refl _), clw_b (n := n) hj hb n h.2.1, as_b h.2.2.1 (by omega), Bool.and_comm]
  rfl
