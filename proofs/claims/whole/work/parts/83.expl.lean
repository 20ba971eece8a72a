/-! the smallest explanation of both sides -/
theorem w0_iff (x : Int64) : x = 0 ↔ ∀ b, b < 64 → tbL x b = false := by
  constructor
  · intro h b _
    rw [h]
    exact tb_0 b
  · intro h
    exact bl_ext (fun i hi => (h i hi).trans (bl_0 i).symm)
theorem tb_not (x : Int64) {b : Nat} (hb : b < 64) : tbL (x ^^^ (-1)) b = !tbL x b := by
  have e : tbL (x ^^^ (-1)) b = (tbL x b ^^ tbL (-1) b) := by unfold tbL; rw [Int64.toBitVec_xor, BitVec.getLsbD_xor]
  rw [e, tb_m1 hb]
  cases tbL x b <;> rfl
theorem exR_iff (sup opp ch : Nat → Int64) : ∀ (k i : Nat) (b : Bool), (exR sup opp ch k i b = true ↔ (∀ j, i ≤ j → j < i + k → opp j &&& ch j = 0) ∧ (b = true ∨ ∃ j, i ≤ j ∧ j < i + k ∧ ¬ sup j &&& ch j = 0))
  | 0, i, b => by
    unfold exR
    constructor
    · intro h; exact ⟨(fun j a c => by omega), Or.inl h⟩
    · rintro ⟨_, h | ⟨j, a, c, _⟩⟩
      · exact h
      · omega
  | k + 1, i, b => by
    unfold exR
    by_cases c : opp i &&& ch i = 0
    · rw [if_pos c, exR_iff sup opp ch k (i + 1)]
      constructor
      · rintro ⟨h1, h2⟩
        refine ⟨fun j a d => ?_, ?_⟩
        · by_cases e : j = i
          · rw [e]; exact c
          · exact h1 j (by omega) (by omega)
        · rcases h2 with h2 | ⟨j, a, d, h2⟩
          · rw [Bool.or_eq_true] at h2
            rcases h2 with h2 | h2
            · exact Or.inl h2
            · exact Or.inr ⟨i, Nat.le_refl _, by omega, by simpa using h2⟩
          · exact Or.inr ⟨j, by omega, by omega, h2⟩
      · rintro ⟨h1, h2⟩
        refine ⟨fun j a d => h1 j (by omega) (by omega), ?_⟩
        rcases h2 with h2 | ⟨j, a, d, h2⟩
        · exact Or.inl (by rw [h2]; rfl)
        · by_cases e : j = i
          · rw [e] at h2
            exact Or.inl (by rw [decide_eq_false h2]; simp)
          · exact Or.inr ⟨j, by omega, by omega, h2⟩
    · rw [if_neg c]
      constructor
      · intro h; cases h
      · rintro ⟨h1, _⟩
        exact absurd (h1 i (Nat.le_refl _) (by omega)) c
theorem chl_b {i b : Nat} (hi : i < 16) (hb : b < 64) : ∀ (l : List Nat) (w : Int64), (∀ c ∈ l, 2 ≤ c ∧ c ≤ 21) → tbL (l.foldl (fun a c => a &&& lwv c i) w) b = (tbL w b && l.all (tv (64 * i + b)))
  | [], w, _ => by simp
  | c :: l, w, h => by
    have hc := h c List.mem_cons_self
    rw [List.foldl_cons, chl_b hi hb l _ (fun c hc => h c (List.mem_cons_of_mem _ hc)), tb_and, lwv_tv hc.1 hc.2 hi hb, List.all_cons, Bool.and_assoc]
theorem ct_imp {p t : Nat → Bool} {n : Nat} : fb_ct (fun m => p m && t m) n = fb_ct p n ↔ ∀ m, m < n → p m = true → t m = true := by
  have a := fb_ct_or (p := fun m => p m && t m) (q := fun m => p m && !t m) (n := n) (fun m _ h => by
    simp only [Bool.and_eq_true] at h
    rw [h.1.2] at h
    exact Bool.noConfusion h.2.2)
  have b : fb_ct (fun m => p m && t m || p m && !t m) n = fb_ct p n := fb_ct_cong (fun m _ => by cases p m <;> cases t m <;> rfl)
  rw [b] at a
  have z := fb_ct_zero (p := fun m => p m && !t m) (n := n)
  constructor
  · intro e m hm hp
    have := z.mp (by omega) m hm
    rw [hp] at this
    cases ht : t m with
    | true => rfl
    | false => rw [ht] at this; cases this
  · intro h
    have := z.mpr (fun m hm => by
      cases hp : p m with
      | false => rfl
      | true => rw [h m hm hp]; rfl)
    omega
theorem rHas_or (x y : Int32) (m : Nat) : rHas (x ||| y) m = (rHas x m && rHas y m) := by
  unfold rHas
  rw [Bool.eq_iff_iff, Bool.and_eq_true, decide_eq_true_eq, decide_eq_true_eq, decide_eq_true_eq]
  exact and_or0 x y _
section SRM
variable {n : Nat} {as : Int32} {cs w S : Nat → Int32}
theorem ex_gen (h : SR n as cs w S) {x : Int32} (hx : isLitP x) {l : List Nat} (hl : ∀ c ∈ l, 2 ≤ c ∧ c ≤ 21) {bits : Int32} (hb : ∀ m, m < 1024 → rHas bits m = l.all (tv m)) : exB (fun i => gW cs n as i &&& lwv (cdN x) i) (fun i => gW cs n as i &&& (lwv (cdN x) i ^^^ (-1))) l = rEx S n x bits := by
  have cr := cdN_rng hx
  have o : ∀ i, i < 16 → ∀ b, b < 64 → tbL ((gW cs n as i &&& (lwv (cdN x) i ^^^ (-1))) &&& chl l i) b = (rMod S n (64 * i + b) && !tv (64 * i + b) (cdN x) && l.all (tv (64 * i + b))) := fun i hi b hb => by
    rw [tb_and, tb_and, tb_not _ hb, gW_b h hi hb, lwv_tv cr.1 cr.2 hi hb]
    unfold chl
    rw [chl_b hi hb l _ hl, tb_m1 hb, Bool.true_and]
  have s : ∀ i, i < 16 → ∀ b, b < 64 → tbL ((gW cs n as i &&& lwv (cdN x) i) &&& chl l i) b = (rMod S n (64 * i + b) && tv (64 * i + b) (cdN x) && l.all (tv (64 * i + b))) := fun i hi b hb => by
    rw [tb_and, tb_and, gW_b h hi hb, lwv_tv cr.1 cr.2 hi hb]
    unfold chl
    rw [chl_b hi hb l _ hl, tb_m1 hb, Bool.true_and]
  have e1 : rBy S n bits = fb_ct (fun m => rMod S n m && l.all (tv m)) 1024 := fb_ct_cong (fun m hm => by rw [hb m hm])
  have e2 : rBy S n (bits ||| rBit x) = fb_ct (fun m => (rMod S n m && l.all (tv m)) && tv m (cdN x)) 1024 := fb_ct_cong (fun m hm => by rw [rHas_or, hb m hm, rHas_l hx hm, Bool.and_assoc])
  unfold exB rEx
  rw [Bool.eq_iff_iff, exR_iff, Bool.and_eq_true, decide_eq_true_eq, decide_eq_true_eq, e1, e2, ct_imp, fb_ct_pos]
  constructor
  · rintro ⟨h1, h2⟩
    have k1 : ∀ m, m < 1024 → (rMod S n m && l.all (tv m)) = true → tv m (cdN x) = true := fun m hm hp => by
      have z := (w0_iff _).mp (h1 (m / 64) (Nat.zero_le _) (by omega)) (m % 64) (by omega)
      have z2 := o (m / 64) (by omega) (m % 64) (by omega)
      rw [show 64 * (m / 64) + m % 64 = m by omega] at z2
      rw [z2] at z
      rw [Bool.and_eq_true] at hp
      rw [hp.1, hp.2] at z
      simpa using z
    refine ⟨?_, k1⟩
    rcases h2 with h2 | ⟨j, a, d, h2⟩
    · cases h2
    · apply Decidable.byContradiction
      intro nn
      apply h2
      rw [w0_iff]
      intro b hb'
      rw [s j (by omega) b hb']
      cases hr : rMod S n (64 * j + b) with
      | false => rfl
      | true =>
        cases hq : l.all (tv (64 * j + b)) with
        | false => simp
        | true => exact absurd ⟨64 * j + b, by omega, by rw [hr, hq]; rfl⟩ nn
  · rintro ⟨⟨m, hm, hp⟩, h2⟩
    refine ⟨fun j a d => ?_, Or.inr ⟨m / 64, Nat.zero_le _, by omega, fun z => ?_⟩⟩
    · rw [w0_iff]
      intro b hb'
      rw [o j (by omega) b hb']
      have := h2 (64 * j + b) (by omega)
      cases hr : rMod S n (64 * j + b) with
      | false => rfl
      | true =>
        cases hq : l.all (tv (64 * j + b)) with
        | false => simp
        | true => rw [hr, hq] at this; rw [this rfl]; rfl
    · have z1 := (w0_iff _).mp z (m % 64) (by omega)
      have z2 := s (m / 64) (by omega) (m % 64) (by omega)
      rw [show 64 * (m / 64) + m % 64 = m by omega] at z2
      rw [z2, h2 m hm hp] at z1
      rw [Bool.and_eq_true] at hp
      rw [hp.1, hp.2] at z1
      cases z1
/-! which literals may be taken -/
theorem fl_lit' : ∀ c, c < 20 → (¬ fLit (nI (c + 2)) = 0 ∧ -10 ≤ fLit (nI (c + 2)) ∧ fLit (nI (c + 2)) ≤ 10) ∧ cdN (fLit (nI (c + 2))) = c + 2 := by decide +kernel
theorem fl_lit {c : Nat} (h1 : 2 ≤ c) (h2 : c ≤ 21) : isLitP (fLit (nI c)) ∧ cdN (fLit (nI c)) = c := by
  have := fl_lit' (c - 2) (by omega)
  rwa [show c - 2 + 2 = c by omega] at this
theorem has_cd {c m : Nat} (h1 : 2 ≤ c) (h2 : c ≤ 21) (hm : m < 1024) : rHas (bcd c) m = tv m c := by
  unfold bcd
  rw [rHas_l (fl_lit h1 h2).1 hm, (fl_lit h1 h2).2]
theorem vb_cd' : ∀ c, c < 20 → ∀ v, v < 32 → bt (rVars (bcd (c + 2))) v = decide (v = c / 2) := by decide +kernel
theorem vb_cd {c v : Nat} (h1 : 2 ≤ c) (h2 : c ≤ 21) (hv : v < 32) : bt (rVars (bcd c)) v = decide (v = c / 2 - 1) := by
  have := vb_cd' (c - 2) (by omega) v hv
  rw [show c - 2 + 2 = c by omega, show (c - 2) / 2 = c / 2 - 1 by omega] at this
  exact this
def usB (S : Nat → Int32) (x : Int32) (c : Nat) : Bool := !(bt (S 17) (c / 2 - 1) || bt (S 18) (c / 2 - 1) || bt (rVars (rBit x)) (c / 2 - 1))
theorem may_eq (x w : Int32) {c : Nat} (h1 : 2 ≤ c) (h2 : c ≤ 21) : rMay S x c w = (usB S x c && !bt (rVars w) (c / 2 - 1)) := by
  unfold rMay usB
  have q := and_bit (c := rVars w ||| (S 17 ||| S 18) ||| rVars (rBit x)) (by omega : c / 2 - 1 < 32) (x := rVars (bcd c)) (fun j hj => vb_cd h1 h2 hj)
  rw [Bool.eq_iff_iff, decide_eq_true_eq, Int32.and_comm, q, b_or, b_or, b_or]
  cases bt (rVars w) (c / 2 - 1) <;> cases bt (S 17) (c / 2 - 1) <;> cases bt (S 18) (c / 2 - 1) <;> cases bt (rVars (rBit x)) (c / 2 - 1) <;> simp
theorem one_cd : ∀ i, i < 21 → ¬ nI i - 10 = 0 → (1 : Int32) <<< (nI (cdN (nI i - 10)) &&& 31) = fBit (nI i - 10) := by decide +kernel
theorem us_eq (h : SR n as cs w S) {x : Int32} (hx : isLitP x) {c : Nat} (h1 : 2 ≤ c) (h2 : c ≤ 21) : conb (usI as (cdN x)) c = usB S x c := by
  have e : (1 : Int32) <<< (nI (cdN x) &&& 31) = fBit x := by
    obtain ⟨i, hi, rfl⟩ := lz_cases hx.2
    exact one_cd i hi hx.1
  rw [conb_bt _ (by omega)]
  unfold usI usB
  rw [e, not_bit _ (by omega), b_or, fv_or]
  have q : ∀ z : Int32, bt (z <<< ((1 : Int32) &&& 31)) c = (decide (1 ≤ c) && bt z (c - 1)) := fun z => b_shl 1 (by decide) z (by omega)
  rw [q, b_or, b_or, decide_eq_true (p := 1 ≤ c) (by omega), Bool.true_and]
  have fa : ∀ v, v < 10 → bt (fVars as) (2 * v + 2) = (bt (S 17) v || bt (S 18) v) := fun v hv => by
    rw [fv_bit as (by omega), (h.2.2.1.2.1 v hv).1, (h.2.2.1.2.1 v hv).2, decide_eq_true (p := 2 ≤ 2 * v + 2 ∧ 2 * v + 2 < 22) (by omega), decide_eq_true (p := (2 * v + 2) % 2 = 0) (by omega)]
    simp
  by_cases ev : c % 2 = 0
  · rw [fv_o (i := c - 1) (by omega) (by omega), fv_o (i := c - 1) (by omega) (by omega), show c = 2 * (c / 2 - 1) + 2 by omega, fa _ (by omega), fv_v (CR_b hx) (by omega), show (2 * (c / 2 - 1) + 2) / 2 - 1 = c / 2 - 1 by omega]
    simp
  · rw [fv_o (i := c) (by omega) (by omega), fv_o (i := c) (by omega) (by omega), show c - 1 = 2 * (c / 2 - 1) + 2 by omega, fa _ (by omega), fv_v (CR_b hx) (by omega)]
    simp
/-! the search -/
theorem fs_cong {α : Type} {f g : Nat → Option α} : ∀ {l : List Nat}, (∀ a ∈ l, f a = g a) → l.findSome? f = l.findSome? g
  | [], _ => rfl
  | a :: l, h => by
    rw [fs_or, fs_or, h a List.mem_cons_self, fs_cong (fun b hb => h b (List.mem_cons_of_mem _ hb))]
theorem fs_next {α : Type} {f : Nat → Option α} {a : Nat} (h1 : 2 ≤ a) (h2 : a ≤ 21) (h : a % 2 = 0 → f (a + 1) = none) : (List.range' (a + 1) (21 - a)).findSome? f = (List.range' (2 * (a / 2) + 2) (22 - (2 * (a / 2) + 2))).findSome? f := by
  by_cases e : a % 2 = 0
  · rw [show 21 - a = (20 - a) + 1 by omega, List.range'_succ, fs_or, h e, show 2 * (a / 2) + 2 = a + 1 + 1 by omega, show 22 - (a + 1 + 1) = 20 - a by omega]
    rfl
  · rw [show 2 * (a / 2) + 2 = a + 1 by omega, show 22 - (a + 1) = 21 - a by omega]
theorem rng_mem {a b : Nat} (ha : a ≤ 22) : b ∈ List.range' a (22 - a) → a ≤ b ∧ b ≤ 21 := by
  rw [List.mem_range'_1]
  omega
theorem xp_eq (h : SR n as cs w S) {x : Int32} (hx : isLitP x) : explW (gW cs n as) as (cdN x) = rXpl S n x := by
  unfold explW
  generalize hu : conb (usI as (cdN x)) = us
  generalize he : exB (fun i => gW cs n as i &&& lwv (cdN x) i) (fun i => gW cs n as i &&& (lwv (cdN x) i ^^^ (-1))) = ex
  have hu' : ∀ c, 2 ≤ c → c ≤ 21 → us c = usB S x c := fun c h1 h2 => by rw [← hu]; exact us_eq h hx h1 h2
  have x0 : ex [] = rEx S n x 0 := by rw [← he]; exact ex_gen h hx (fun c hc => by cases hc) (fun m _ => rHas_0 m)
  have x1 : ∀ a, 2 ≤ a → a ≤ 21 → ex [a] = rEx S n x (bcd a) := fun a h1 h2 => by
    rw [← he]
    exact ex_gen h hx (fun c hc => by rw [List.mem_singleton] at hc; omega) (fun m hm => by rw [has_cd h1 h2 hm]; simp)
  have x2 : ∀ a b, 2 ≤ a → a ≤ 21 → 2 ≤ b → b ≤ 21 → ex [a, b] = rEx S n x (bcd a ||| bcd b) := fun a b h1 h2 h3 h4 => by
    rw [← he]
    exact ex_gen h hx (fun c hc => by simp only [List.mem_cons, List.not_mem_nil, or_false] at hc; omega) (fun m hm => by rw [rHas_or, has_cd h1 h2 hm, has_cd h3 h4 hm]; simp)
  have x3 : ∀ a b c, 2 ≤ a → a ≤ 21 → 2 ≤ b → b ≤ 21 → 2 ≤ c → c ≤ 21 → ex [a, b, c] = rEx S n x (bcd a ||| bcd b ||| bcd c) := fun a b c h1 h2 h3 h4 h5 h6 => by
    rw [← he]
    exact ex_gen h hx (fun c hc => by simp only [List.mem_cons, List.not_mem_nil, or_false] at hc; omega) (fun m hm => by rw [rHas_or, rHas_or, has_cd h1 h2 hm, has_cd h3 h4 hm, has_cd h5 h6 hm]; simp [Bool.and_assoc])
  have v1 : ∀ a c, 2 ≤ a → a ≤ 21 → 2 ≤ c → c ≤ 21 → bt (rVars (bcd a)) (c / 2 - 1) = decide (c / 2 = a / 2) := fun a c h1 h2 h3 h4 => by
    rw [vb_cd h1 h2 (by omega)]
    by_cases e : c / 2 = a / 2
    · rw [decide_eq_true e, decide_eq_true (by omega)]
    · rw [decide_eq_false e, decide_eq_false (by omega)]
  have m0 : ∀ a, 2 ≤ a → a ≤ 21 → rMay S x a 0 = us a := fun a h1 h2 => by
    rw [may_eq x 0 h1 h2, hu' a h1 h2, rv_bit 0 (by omega), b_0, b_0]
    simp
  have m1 : ∀ a b, 2 ≤ a → a ≤ 21 → 2 ≤ b → b ≤ 21 → rMay S x b (bcd a) = (us b && !decide (b / 2 = a / 2)) := fun a b h1 h2 h3 h4 => by
    rw [may_eq x _ h3 h4, hu' b h3 h4, v1 a b h1 h2 h3 h4]
  have m2 : ∀ a b c, 2 ≤ a → a ≤ 21 → 2 ≤ b → b ≤ 21 → 2 ≤ c → c ≤ 21 → rMay S x c (bcd a ||| bcd b) = (us c && !(decide (c / 2 = a / 2) || decide (c / 2 = b / 2))) := fun a b c h1 h2 h3 h4 h5 h6 => by
    rw [may_eq x _ h5 h6, hu' c h5 h6, rV_or, b_or, v1 a c h1 h2 h5 h6, v1 b c h3 h4 h5 h6]
  have s0 : ∀ f p, srch us ex 0 f p = if ex p then some p else none := fun f p => rfl
  have s1 : srch us ex 1 2 [] = rXm S n x 1 := by
    show (List.range' 2 20).findSome? _ = (List.range' 2 20).findSome? _
    refine fs_cong (fun a ha => ?_)
    obtain ⟨h1, h2⟩ := rng_mem (a := 2) (by decide) ha
    unfold rX1
    rw [m0 a h1 h2, if_pos rfl, s0, List.nil_append, x1 a h1 h2]
  have s2 : srch us ex 2 2 [] = rXm S n x 2 := by
    show (List.range' 2 20).findSome? _ = (List.range' 2 20).findSome? _
    refine fs_cong (fun a ha => ?_)
    obtain ⟨h1, h2⟩ := rng_mem (a := 2) (by decide) ha
    unfold rX1
    rw [m0 a h1 h2, if_neg (by decide : ¬ 2 = 1)]
    by_cases c : us a = true
    · rw [if_pos c, if_pos c]
      unfold rFrom
      rw [fs_next h1 h2 (fun e => by unfold rX2; rw [m1 a (a + 1) h1 h2 (by omega) (by omega), decide_eq_true (by omega)]; simp)]
      show (List.range' _ _).findSome? _ = _
      refine fs_cong (fun b hb => ?_)
      obtain ⟨h3, h4⟩ := rng_mem (by omega) hb
      unfold rX2
      rw [m1 a b h1 h2 (by omega) h4, decide_eq_false (by omega), if_pos rfl, s0, ← x2 a b h1 h2 (by omega) h4]
      simp
    · rw [if_neg c, if_neg c]
  have s3 : srch us ex 3 2 [] = rXm S n x 3 := by
    show (List.range' 2 20).findSome? _ = (List.range' 2 20).findSome? _
    refine fs_cong (fun a ha => ?_)
    obtain ⟨h1, h2⟩ := rng_mem (a := 2) (by decide) ha
    unfold rX1
    rw [m0 a h1 h2, if_neg (by decide : ¬ 3 = 1)]
    by_cases c : us a = true
    · rw [if_pos c, if_pos c]
      unfold rFrom
      rw [fs_next h1 h2 (fun e => by unfold rX2; rw [m1 a (a + 1) h1 h2 (by omega) (by omega), decide_eq_true (by omega)]; simp)]
      show (List.range' _ _).findSome? _ = _
      refine fs_cong (fun b hb => ?_)
      obtain ⟨h3, h4⟩ := rng_mem (by omega) hb
      unfold rX2
      rw [m1 a b h1 h2 (by omega) h4, decide_eq_false (by omega), if_neg (by decide : ¬ 3 = 2)]
      by_cases c2 : us b = true
      · rw [if_pos c2, if_pos (by rw [c2]; rfl)]
        rw [fs_next (by omega) h4 (fun e => by unfold rX3; rw [m2 a b (b + 1) h1 h2 (by omega) h4 (by omega) (by omega), decide_eq_true (p := (b + 1) / 2 = b / 2) (by omega)]; simp)]
        show (List.range' _ _).findSome? _ = _
        refine fs_cong (fun d hd => ?_)
        obtain ⟨h5, h6⟩ := rng_mem (by omega) hd
        unfold rX3
        rw [m2 a b d h1 h2 (by omega) h4 (by omega) h6, decide_eq_false (p := d / 2 = a / 2) (by omega), decide_eq_false (p := d / 2 = b / 2) (by omega), s0, ← x3 a b d h1 h2 (by omega) h4 (by omega) h6]
        cases us d <;> simp
      · rw [if_neg c2, if_neg (by rw [Bool.not_eq_true] at c2; rw [c2]; decide)]
    · rw [if_neg c, if_neg c]
  unfold rXpl
  rw [← x0, ← s1, ← s2, ← s3]
  show (match srch us ex 0 2 [] with | some l => some l | none => exFind us ex 3 1) = _
  rw [s0]
  by_cases c : ex [] = true
  · rw [if_pos c, if_pos c]
  · rw [if_neg c, if_neg c]
    show (match srch us ex 1 2 [] with | some l => some l | none => (match srch us ex 2 2 [] with | some l => some l | none => (match srch us ex 3 2 [] with | some l => some l | none => none))) = _
    cases srch us ex 1 2 [] with
    | some l => rfl
    | none =>
      cases srch us ex 2 2 [] with
      | some l => rfl
      | none =>
        cases srch us ex 3 2 [] with
        | some l => rfl
        | none => rfl
end SRM
