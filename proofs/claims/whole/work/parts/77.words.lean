/-! words of the class and of the reference: which bits are which -/
def CR (c r : Int32) : Prop := (∀ i, i < 32 → (i < 2 ∨ 22 ≤ i) → bt c i = false) ∧ (∀ v, v < 10 → bt c (2 * v + 2) = bt r v ∧ bt c (2 * v + 3) = bt r (v + 10)) ∧ ∀ i, i < 32 → 20 ≤ i → bt r i = false
theorem CR_0 : CR 0 0 := ⟨fun i _ _ => b_0 i, fun v _ => ⟨by rw [b_0, b_0], by rw [b_0, b_0]⟩, fun i _ _ => b_0 i⟩
theorem CR_or {c r c' r' : Int32} (h : CR c r) (h' : CR c' r') : CR (c ||| c') (r ||| r') := by
  refine ⟨fun i a b => ?_, fun v a => ⟨?_, ?_⟩, fun i a b => ?_⟩
  · rw [b_or, h.1 i a b, h'.1 i a b]; rfl
  · rw [b_or, b_or, (h.2.1 v a).1, (h'.2.1 v a).1]
  · rw [b_or, b_or, (h.2.1 v a).2, (h'.2.1 v a).2]
  · rw [b_or, h.2.2 i a b, h'.2.2 i a b]; rfl
theorem CR_r {c r r' : Int32} (h : CR c r) (h' : CR c r') : r = r' := by
  apply b_ext
  intro i hi
  by_cases a : i < 10
  · exact ((h.2.1 i a).1).symm.trans (h'.2.1 i a).1
  · by_cases b : i < 20
    · have e : i = (i - 10) + 10 := by omega
      rw [e]
      exact ((h.2.1 (i - 10) (by omega)).2).symm.trans (h'.2.1 (i - 10) (by omega)).2
    · rw [h.2.2 i hi (by omega), h'.2.2 i hi (by omega)]
theorem CR_c {c c' r : Int32} (h : CR c r) (h' : CR c' r) : c = c' := by
  apply b_ext
  intro i hi
  by_cases a : i < 2 ∨ 22 ≤ i
  · rw [h.1 i hi a, h'.1 i hi a]
  · by_cases e : i % 2 = 0
    · have := (h.2.1 (i / 2 - 1) (by omega)).1
      have h2 := (h'.2.1 (i / 2 - 1) (by omega)).1
      rw [show 2 * (i / 2 - 1) + 2 = i by omega] at this h2
      exact this.trans h2.symm
    · have := (h.2.1 (i / 2 - 1) (by omega)).2
      have h2 := (h'.2.1 (i / 2 - 1) (by omega)).2
      rw [show 2 * (i / 2 - 1) + 3 = i by omega] at this h2
      exact this.trans h2.symm
theorem CR_z {c r : Int32} (h : CR c r) : c = 0 ↔ r = 0 := ⟨fun e => by rw [e] at h; exact CR_r h CR_0, fun e => by rw [e] at h; exact CR_c h CR_0⟩
theorem CR_lz : ∀ i, i < 21 → (∀ j, j < 32 → (j < 2 ∨ 22 ≤ j) → bt (fBit (nI i - 10)) j = false) ∧ (∀ v, v < 10 → bt (fBit (nI i - 10)) (2 * v + 2) = bt (rB0 (nI i - 10)) v ∧ bt (fBit (nI i - 10)) (2 * v + 3) = bt (rB0 (nI i - 10)) (v + 10)) ∧ ∀ j, j < 32 → 20 ≤ j → bt (rB0 (nI i - 10)) j = false := by decide +kernel
theorem CR_b0 {x : Int32} (h : isLzP x) : CR (fBit x) (rB0 x) := by
  obtain ⟨i, hi, rfl⟩ := lz_cases h
  exact CR_lz i hi
theorem rB0_l {x : Int32} (h : isLitP x) : rB0 x = rBit x := if_neg h.1
theorem CR_b {x : Int32} (h : isLitP x) : CR (fBit x) (rBit x) := by rw [← rB0_l h]; exact CR_b0 h.2
theorem CR_4 {a b c d : Int32} (h : aOK a b c d) : CR (bits4 a b c d) (R4 a b c d) := CR_or (CR_or (CR_or (CR_b0 h.1.2) (CR_b0 h.2.1)) (CR_b0 h.2.2.1)) (CR_b0 h.2.2.2)
/-! the variables -/
theorem fv_mask : ∀ i, i < 32 → bt (1398100 : Int32) i = (decide (2 ≤ i ∧ i < 22) && decide (i % 2 = 0)) := by decide
theorem fv_bit (c : Int32) {i : Nat} (hi : i < 32) : bt (fVars c) i = ((bt c i || bt c (i + 1)) && (decide (2 ≤ i ∧ i < 22) && decide (i % 2 = 0))) := by
  unfold fVars
  have q := b_sshr 1 (by decide) c hi
  rw [b_and, b_or, fv_mask i hi, show bt (c >>> ((1 : Int32) &&& 31)) i = _ from q]
  by_cases e : 1 + i < 32
  · rw [if_pos e, Nat.add_comm 1 i]
  · rw [decide_eq_false (p := 2 ≤ i ∧ i < 22) (by omega)]
    simp
theorem fv_v {c r : Int32} (h : CR c r) {v : Nat} (hv : v < 10) : bt (fVars c) (2 * v + 2) = bt (rVars r) v := by
  rw [fv_bit c (by omega), rv_bit r hv, (h.2.1 v hv).1, (h.2.1 v hv).2, decide_eq_true (p := 2 ≤ 2 * v + 2 ∧ 2 * v + 2 < 22) (by omega), decide_eq_true (p := (2 * v + 2) % 2 = 0) (by omega)]
  simp
theorem fv_o {c : Int32} {i : Nat} (hi : i < 32) (ho : i < 2 ∨ 22 ≤ i ∨ i % 2 = 1) : bt (fVars c) i = false := by
  rw [fv_bit c hi]
  by_cases a : 2 ≤ i ∧ i < 22
  · rw [decide_eq_false (p := i % 2 = 0) (by omega)]; simp
  · rw [decide_eq_false a]; simp
/-- a word of the class's meets a set of variables -/
theorem fv_and {c r m : Int32} (h : CR c r) : fVars c &&& m = 0 ↔ ∀ v, v < 10 → ¬ (bt (rVars r) v = true ∧ bt m (2 * v + 2) = true) := by
  rw [and0_iff]
  constructor
  · intro a v hv
    rw [← fv_v h hv]
    exact a _ (by omega)
  · intro a i hi hb
    by_cases o : i < 2 ∨ 22 ≤ i ∨ i % 2 = 1
    · rw [fv_o hi o] at hb
      exact Bool.noConfusion hb.1
    · have e : i = 2 * (i / 2 - 1) + 2 := by omega
      rw [e] at hb
      rw [fv_v h (by omega)] at hb
      exact a _ (by omega) hb
theorem fv_and2 {c r c' r' : Int32} (h : CR c r) (h' : CR c' r') : fVars c &&& fVars c' = 0 ↔ rVars r &&& rVars r' = 0 := by
  rw [fv_and h, and0_iff]
  constructor
  · intro a i hi hb
    by_cases o : i < 10
    · exact a i o (by rw [fv_v h' o]; exact hb)
    · rw [rv_big r (by omega) hi] at hb
      exact Bool.noConfusion hb.1
  · intro a v hv hb
    rw [fv_v h' hv] at hb
    exact a v (by omega) hb
theorem fv_or (x y : Int32) : fVars (x ||| y) = fVars x ||| fVars y := by
  apply b_ext
  intro i hi
  rw [b_or, fv_bit _ hi, fv_bit _ hi, fv_bit _ hi, b_or, b_or]
  cases bt x i <;> cases bt y i <;> cases bt x (i + 1) <;> cases bt y (i + 1) <;> simp
/-! how many -/
theorem CR_pc {c r : Int32} (h : CR c r) : pcN c = pcN r := by
  have e1 : ∀ i, i < 32 → bt c i = if i < 2 ∨ 22 ≤ i then false else if i % 2 = 0 then bt r (i / 2 - 1) else bt r (i / 2 - 1 + 10) := by
    intro i hi
    by_cases a : i < 2 ∨ 22 ≤ i
    · rw [if_pos a, h.1 i hi a]
    · rw [if_neg a]
      by_cases e : i % 2 = 0
      · rw [if_pos e, ← (h.2.1 (i / 2 - 1) (by omega)).1]
        exact congrArg (bt c) (by omega)
      · rw [if_neg e, ← (h.2.1 (i / 2 - 1) (by omega)).2]
        exact congrArg (bt c) (by omega)
  have e2 : ∀ i, i < 32 → bt r i = if i < 20 then bt r i else false := by
    intro i hi
    by_cases a : i < 20
    · rw [if_pos a]
    · rw [if_neg a, h.2.2 i hi (by omega)]
  unfold pcN
  rw [fb_ct_cong e1, fb_ct_cong e2]
  generalize bt r = b
  simp only [fb_ct]
  simp
  omega
