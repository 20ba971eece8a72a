/-! what changes the formula changes it alike -/
theorem AR_0 : AR 0 0 0 := ⟨fun i _ _ => b_0 i, fun v _ => ⟨by rw [b_0, b_0], by rw [b_0, b_0]⟩, fun i _ _ => ⟨b_0 i, b_0 i⟩, fun i _ h => by rw [b_0] at h; exact Bool.noConfusion h.1⟩
theorem AR_pc {as t f : Int32} (h : AR as t f) : pcN as = pcN (t ||| f) := by
  have e0 : pcN (t ||| f) = fb_ct (bt t) 32 + fb_ct (bt f) 32 := by
    rw [← fb_ct_or h.2.2.2]
    exact fb_ct_cong (fun i _ => b_or t f i)
  have e1 : ∀ i, i < 32 → bt as i = if i < 2 ∨ 22 ≤ i then false else if i % 2 = 0 then bt t (i / 2 - 1) else bt f (i / 2 - 1) := by
    intro i hi
    by_cases a : i < 2 ∨ 22 ≤ i
    · rw [if_pos a, h.1 i hi a]
    · rw [if_neg a]
      by_cases e : i % 2 = 0
      · rw [if_pos e, ← (h.2.1 (i / 2 - 1) (by omega)).1]
        exact congrArg (bt as) (by omega)
      · rw [if_neg e, ← (h.2.1 (i / 2 - 1) (by omega)).2]
        exact congrArg (bt as) (by omega)
  have e2 : ∀ i, i < 32 → bt t i = if i < 10 then bt t i else false := by
    intro i hi
    by_cases a : i < 10
    · rw [if_pos a]
    · rw [if_neg a, (h.2.2.1 i hi (by omega)).1]
  have e3 : ∀ i, i < 32 → bt f i = if i < 10 then bt f i else false := by
    intro i hi
    by_cases a : i < 10
    · rw [if_pos a]
    · rw [if_neg a, (h.2.2.1 i hi (by omega)).2]
  rw [e0, fb_ct_cong e2, fb_ct_cong e3]
  unfold pcN
  rw [fb_ct_cong e1]
  generalize bt t = b
  generalize bt f = g
  simp only [fb_ct]
  simp
  omega
theorem AR_bc {as t f : Int32} (h : AR as t f) : bcI as = nI (pcN (t ||| f)) := by rw [bcI_pc, AR_pc h]
theorem fb_p : ∀ v, v < 10 → ∀ i, i < 32 → bt (fBit (nI (v + 1))) i = decide (i = 2 * v + 2) := by decide +kernel
theorem fb_m : ∀ v, v < 10 → ∀ i, i < 32 → bt (fBit (-nI (v + 1))) i = decide (i = 2 * v + 3) := by decide +kernel
theorem rv_p : ∀ v, v < 10 → ∀ i, i < 32 → bt (rVars (rBit (nI (v + 1)))) i = decide (i = v) := by decide +kernel
theorem rv_m : ∀ v, v < 10 → ∀ i, i < 32 → bt (rVars (rBit (-nI (v + 1)))) i = decide (i = v) := by decide +kernel
theorem sg_p : ∀ v, v < 10 → ¬ nI (v + 1) ≤ 0 := by decide
theorem sg_m : ∀ v, v < 10 → -nI (v + 1) ≤ 0 := by decide
theorem fv_a {as t f : Int32} (h : AR as t f) {v : Nat} (hv : v < 10) : bt (fVars as) (2 * v + 2) = (bt t v || bt f v) := by
  rw [fv_bit as (by omega), (h.2.1 v hv).1, (h.2.1 v hv).2, decide_eq_true (p := 2 ≤ 2 * v + 2 ∧ 2 * v + 2 < 22) (by omega), decide_eq_true (p := (2 * v + 2) % 2 = 0) (by omega)]
  simp
theorem as_cf {as t f x : Int32} (h : AR as t f) (hx : isLitP x) : fVars as &&& fVars (fBit x) = 0 ↔ (t ||| f) &&& rVars (rBit x) = 0 := by
  rw [Int32.and_comm, fv_and (CR_b hx), and0_iff]
  constructor
  · intro z i hi hb
    by_cases c : i < 10
    · rw [b_or] at hb
      exact z i c ⟨hb.2, by rw [fv_a h c]; exact hb.1⟩
    · rw [rv_big _ (by omega) hi] at hb
      exact Bool.noConfusion hb.2
  · intro z v hv hb
    rw [fv_a h hv, ← b_or] at hb
    exact z v (by omega) ⟨hb.2, hb.1⟩
section SRM
variable {n : Nat} {as : Int32} {cs w S : Nat → Int32}
theorem SR_cong {S' : Nat → Int32} (h : SR n as cs w S) (hn : n ≤ 16) (e : ∀ j, j < 39 → S' j = S j) : SR n as cs w S' := by
  refine ⟨(e 0 (by decide)).trans h.1, fun i hi => ?_, ?_, fun c a b => (e _ (by omega)).trans (h.2.2.2 c a b)⟩
  · rw [e _ (by omega)]; exact h.2.1 i hi
  · rw [e 17 (by decide), e 18 (by decide)]; exact h.2.2.1
theorem SR_asm (h : SR n as cs w S) (hn : n ≤ 16) {x : Int32} (hx : isLitP x) (hc : (S 17 ||| S 18) &&& rVars (rBit x) = 0) : SR n (as ||| fBit x) cs w (asmS S x) := by
  have k : ∀ j, j ≠ 17 → j ≠ 18 → asmS S x j = S j := fun j a b => by
    unfold asmS
    split <;> exact upd_keep (by omega)
  refine ⟨(k 0 (by decide) (by decide)).trans h.1, fun i hi => by rw [k _ (by omega) (by omega)]; exact h.2.1 i hi, ?_, fun c a b => (k _ (by omega) (by omega)).trans (h.2.2.2 c a b)⟩
  have ar := h.2.2.1
  rw [and0_iff] at hc
  obtain ⟨v, hv, rfl | rfl⟩ := lit_cases hx
  · have e1 : asmS S (nI (v + 1)) 17 = S 17 ||| rVars (rBit (nI (v + 1))) := by unfold asmS; rw [if_neg (sg_p v hv)]; exact if_pos rfl
    have e2 : asmS S (nI (v + 1)) 18 = S 18 := by unfold asmS; rw [if_neg (sg_p v hv)]; exact upd_keep (by decide)
    rw [e1, e2]
    refine ⟨fun i hi a => ?_, fun u hu => ⟨?_, ?_⟩, fun i hi a => ⟨?_, (ar.2.2.1 i hi a).2⟩, fun i hi b => ?_⟩
    · rw [b_or, ar.1 i hi a, fb_p v hv i hi, decide_eq_false (by omega)]; rfl
    · rw [b_or, b_or, (ar.2.1 u hu).1, fb_p v hv _ (by omega), rv_p v hv _ (by omega)]
      by_cases e : u = v
      · rw [decide_eq_true e, decide_eq_true (by omega)]
      · rw [decide_eq_false e, decide_eq_false (by omega)]
    · rw [b_or, (ar.2.1 u hu).2, fb_p v hv _ (by omega), decide_eq_false (by omega), Bool.or_false]
    · rw [b_or, (ar.2.2.1 i hi a).1, rv_p v hv i hi, decide_eq_false (by omega)]; rfl
    · rw [b_or, rv_p v hv i hi] at b
      by_cases e : i = v
      · have z := hc i hi
        rw [b_or, rv_p v hv i hi, b.2, decide_eq_true e] at z
        exact z ⟨by simp, rfl⟩
      · rw [decide_eq_false e, Bool.or_false] at b
        exact ar.2.2.2 i hi b
  · have e1 : asmS S (-nI (v + 1)) 18 = S 18 ||| rVars (rBit (-nI (v + 1))) := by unfold asmS; rw [if_pos (sg_m v hv)]; exact if_pos rfl
    have e2 : asmS S (-nI (v + 1)) 17 = S 17 := by unfold asmS; rw [if_pos (sg_m v hv)]; exact upd_keep (by decide)
    rw [e1, e2]
    refine ⟨fun i hi a => ?_, fun u hu => ⟨?_, ?_⟩, fun i hi a => ⟨(ar.2.2.1 i hi a).1, ?_⟩, fun i hi b => ?_⟩
    · rw [b_or, ar.1 i hi a, fb_m v hv i hi, decide_eq_false (by omega)]; rfl
    · rw [b_or, (ar.2.1 u hu).1, fb_m v hv _ (by omega), decide_eq_false (by omega), Bool.or_false]
    · rw [b_or, b_or, (ar.2.1 u hu).2, fb_m v hv _ (by omega), rv_m v hv _ (by omega)]
      by_cases e : u = v
      · rw [decide_eq_true e, decide_eq_true (by omega)]
      · rw [decide_eq_false e, decide_eq_false (by omega)]
    · rw [b_or, (ar.2.2.1 i hi a).2, rv_m v hv i hi, decide_eq_false (by omega)]; rfl
    · rw [b_or, rv_m v hv i hi] at b
      by_cases e : i = v
      · have z := hc i hi
        rw [b_or, rv_m v hv i hi, b.1, decide_eq_true e] at z
        exact z ⟨by simp, rfl⟩
      · rw [decide_eq_false e, Bool.or_false] at b
        exact ar.2.2.2 i hi b
theorem SR_add (h : SR n as cs w S) (hn : n < 16) {c r : Int32} (hc : CR c r) : SR (n + 1) as (upd cs n c) w (addS S n r) := by
  have k : ∀ j, j ≠ 0 → j ≠ 1 + n → addS S n r j = S j := fun j a b => by
    unfold addS
    rw [upd_keep a, upd_keep b]
  refine ⟨rfl, fun i hi => ?_, by rw [k 17 (by decide) (by omega), k 18 (by decide) (by omega)]; exact h.2.2.1, fun c a b => (k _ (by omega) (by omega)).trans (h.2.2.2 c a b)⟩
  by_cases e : i = n
  · have e2 : addS S n r (1 + n) = r := by
      unfold addS
      rw [upd_keep (by omega)]
      exact if_pos rfl
    rw [e, e2, show upd cs n c n = c from if_pos rfl]
    exact hc
  · rw [k _ (by omega) (by omega), upd_keep e]
    exact h.2.1 i (by omega)
theorem SR_rem (h : SR n as cs w S) (hn : n ≤ 16) {i : Nat} (hi : i < n) : SR (n - 1) as (delf cs i (n - 1)) w (delR S i n (n - 1)) := by
  have k : ∀ j, n ≤ j → 0 < j → delR S i n (n - 1) j = S j := fun j a b => by
    unfold delR
    rw [if_neg (by omega), if_neg (by omega)]
  refine ⟨rfl, fun j hj => ?_, by rw [k 17 (by omega) (by decide), k 18 (by omega) (by decide)]; exact h.2.2.1, fun c a b => (k _ (by omega) (by omega)).trans (h.2.2.2 c a b)⟩
  unfold delR delf
  rw [if_neg (show ¬ 1 + j = 0 by omega)]
  by_cases e : i ≤ j
  · rw [if_pos (show i ≤ j ∧ j < n - 1 by omega), if_pos (show 1 + i ≤ 1 + j ∧ 1 + j < 1 + (n - 1) by omega)]
    exact h.2.1 (j + 1) (by omega)
  · rw [if_neg (show ¬ (i ≤ j ∧ j < n - 1) by omega), if_neg (show ¬ (1 + i ≤ 1 + j ∧ 1 + j < 1 + (n - 1)) by omega)]
    exact h.2.1 j (by omega)
theorem SR_ret (h : SR n as cs w S) (hn : n ≤ 16) : SR n 0 cs w (upd (upd S 17 0) 18 0) := by
  have k : ∀ j, j ≠ 17 → j ≠ 18 → upd (upd S 17 0) 18 0 j = S j := fun j a b => by rw [upd_keep b, upd_keep a]
  refine ⟨(k 0 (by decide) (by decide)).trans h.1, fun i hi => by rw [k _ (by omega) (by omega)]; exact h.2.1 i hi, ?_, fun c a b => (k _ (by omega) (by omega)).trans (h.2.2.2 c a b)⟩
  rw [show upd (upd S 17 0) 18 0 18 = 0 from if_pos rfl, upd_keep (by decide), show upd S 17 0 17 = 0 from if_pos rfl]
  exact AR_0
theorem SR_wt (h : SR n as cs w S) (hn : n ≤ 16) {c : Nat} (h1 : 2 ≤ c) (h2 : c ≤ 21) (v : Int32) : SR n as cs (upd w c v) (upd S (17 + c) v) := by
  have k : ∀ j, j ≠ 17 + c → upd S (17 + c) v j = S j := fun j a => upd_keep a
  refine ⟨(k 0 (by omega)).trans h.1, fun i hi => by rw [k _ (by omega)]; exact h.2.1 i hi, by rw [k 17 (by omega), k 18 (by omega)]; exact h.2.2.1, fun d a b => ?_⟩
  unfold upd
  by_cases e : d = c
  · rw [if_pos e, if_pos (by omega)]
  · rw [if_neg e, if_neg (by omega)]
    exact h.2.2.2 d a b
theorem SR_app (h : SR n as cs w S) {m : Nat} (hm : n + m ≤ 16) {rc rc' : Nat → Int32} (hr : ∀ j, j < m → CR (rc j) (rc' j)) : SR (n + m) as (appR cs n rc m) w (apS S n rc' m) := by
  have k : ∀ j, 17 ≤ j → apS S n rc' m j = S j := fun j a => by
    unfold apS
    rw [if_neg (by omega), if_neg (by omega)]
  refine ⟨rfl, fun i hi => ?_, by rw [k 17 (by decide), k 18 (by decide)]; exact h.2.2.1, fun d a b => (k _ (by omega)).trans (h.2.2.2 d a b)⟩
  unfold appR apS
  rw [if_neg (show ¬ 1 + i = 0 by omega)]
  by_cases e : n ≤ i
  · rw [if_pos (show n ≤ i ∧ i < n + m by omega), if_pos (show 1 + n ≤ 1 + i ∧ 1 + i < 1 + n + m by omega), show 1 + i - (1 + n) = i - n by omega]
    exact hr _ (by omega)
  · rw [if_neg (show ¬ (n ≤ i ∧ i < n + m) by omega), if_neg (show ¬ (1 + n ≤ 1 + i ∧ 1 + i < 1 + n + m) by omega)]
    exact h.2.1 i (by omega)
/-! the saved ones -/
def HR (k : Nat) (sv : Nat → SC) (V : Nat → Int32) : Prop := ∀ i, i < k → ∃ m, m ≤ 16 ∧ (sv i).1 = nI m ∧ SR m (sv i).2.1 (sv i).2.2.1 (sv i).2.2.2 (fun j => V (39 * i + j))
theorem HR_save {k : Nat} {sv : Nat → SC} {V : Nat → Int32} (hk : k ≤ 5) (x : HR k sv V) (h : SR n as cs w S) (hn : n ≤ 16) : HR (min k 4 + 1) (svSave k sv (nI n, as, cs, w)) (svV k V S) := by
  intro i hi
  have hi' : i ≤ min k 4 := by omega
  by_cases c : i = min k 4
  · have e : svSave k sv (nI n, as, cs, w) i = (nI n, as, cs, w) := by
      unfold svSave va_up
      split
      · exact if_pos (by omega)
      · exact if_pos (by omega)
    rw [e]
    exact ⟨n, hn, rfl, SR_cong h hn (fun j hj => by
      show svV k V S (39 * i + j) = S j
      rw [svV_at hk hi' hj, if_pos c])⟩
  · have q := x (if k = 5 then i + 1 else i) (by split <;> omega)
    have e : svSave k sv (nI n, as, cs, w) i = sv (if k = 5 then i + 1 else i) := by
      unfold svSave va_up rot5
      by_cases c5 : k = 5
      · rw [if_neg (by omega), if_pos c5, if_neg (by omega), if_pos (by omega)]
      · rw [if_pos (by omega), if_neg c5, if_neg (by omega)]
    rw [e]
    obtain ⟨m, h1, h2, h3⟩ := q
    exact ⟨m, h1, h2, SR_cong h3 h1 (fun j hj => by
      show svV k V S (39 * i + j) = _
      rw [svV_at hk hi' hj, if_neg c])⟩
theorem HR_le {k j : Nat} {sv : Nat → SC} {V : Nat → Int32} (x : HR k sv V) (h : j ≤ k) : HR j sv V := fun i hi => x i (by omega)
theorem SR_und {k m : Nat} {sv : Nat → SC} {V S : Nat → Int32} (hm : m ≤ 16) (x : SR m (sv k).2.1 (sv k).2.2.1 (sv k).2.2.2 (fun j => V (39 * k + j))) : SR m (sv k).2.1 (sv k).2.2.1 (sv k).2.2.2 (undS S V k) := SR_cong x hm (fun j hj => by
  unfold undS
  rw [fb_put_in (Nat.zero_le _) (by omega)]
  rfl)
/-! the readers -/
theorem pc_or1 {r x : Int32} {i : Nat} (hi : i < 32) (h : ∀ j, j < 32 → bt x j = decide (j = i)) : pcN (r ||| x) ≤ pcN r + 1 := by
  have e : pcN (r ||| x) = fb_ct (fun k => if k = i then true else bt r k) 32 := fb_ct_cong (fun k hk => by
    rw [b_or, h k hk]
    by_cases c : k = i
    · rw [if_pos c, decide_eq_true c, Bool.or_true]
    · rw [if_neg c, decide_eq_false c, Bool.or_false])
  have q := fb_ct_upd (bt r) true hi
  rw [e]
  unfold pcN
  simp only [if_true] at q
  split at q <;> omega
theorem full_eq {c r : Int32} (h : CR c r) (hp : pcN r ≤ 4) : fullC c = fullR r := by
  unfold fullC fullR
  rw [CR_bc h]
  by_cases e : pcN r = 4
  · rw [decide_eq_true e, decide_eq_true]
    rw [e]
    decide
  · rw [decide_eq_false e, decide_eq_false]
    exact fun z => absurd z (nI_ge (a := pcN r) (b := 4) (by omega) (by decide))
theorem read_eq {tn room : Nat} {tx : Nat → Int32} (rc rc' : Nat → Int32) : RRd (fun c r => CR c r ∧ pcN r ≤ 4) (gRead fullC fBit fVars tn tx room rc) (gRead fullR rBit rVars tn tx room rc') := by
  refine gRead_sim (R := fun c r => CR c r ∧ pcN r ≤ 4) ⟨CR_0, by rw [pc_0]; decide⟩ (fun c r h => CR_z h.1) (fun c r h => full_eq h.1 h.2) (fun c r x h hx => fv_and2 h.1 (CR_b hx)) (fun c r x h hf hx _ => ⟨CR_or h.1 (CR_b hx), ?_⟩) rc rc'
  rw [full_eq h.1 h.2] at hf
  have h3 : ¬ pcN r = 4 := by
    intro e
    unfold fullR at hf
    rw [decide_eq_true e] at hf
    cases hf
  have := h.2
  obtain ⟨v, hv, rfl | rfl⟩ := lit_cases hx
  · have q := pc_or1 (r := r) (by omega) (rBit_p v hv)
    omega
  · have q := pc_or1 (r := r) (by omega) (rBit_m v hv)
    omega
end SRM
