/-! the parts of a row -/
theorem CC.lt {V : Nat → Int32} {n i k : Nat} (hi : i < n) (x : CC V n i k) : k < n := CC.ind (P := fun k => k < n) hi (fun _ _ _ _ h _ => h) x
theorem CC.trans {V : Nat → Int32} {n i j k : Nat} (x : CC V n i j) (y : CC V n j k) : CC V n i k := CC.ind (P := fun k => CC V n i k) x (fun _ _ _ h1 h2 h3 => h1.st h2 h3) y
theorem CC.symm {V : Nat → Int32} {n i k : Nat} (hi : i < n) (x : CC V n i k) : CC V n k i := by
  refine CC.ind (P := fun k => CC V n k i) CC.rf (fun j k h1 h2 h3 h4 => ?_) x
  obtain ⟨b, hb, s1, s2⟩ := h4
  exact (CC.rf.st (h1.lt hi) ⟨b, hb, s2, s1⟩).trans h2
theorem cn_eq {V : Nat → Int32} {n k k' : Nat} {y y' : Int32} (hk : k < n) (h : cnOK V n k y) (h' : cnOK V n k' y') (c : CC V n k k') : y = y' := by
  apply b_ext
  intro j hj
  have a := h j hj
  have b := h' j hj
  have : (j < n ∧ CC V n k j) ↔ (j < n ∧ CC V n k' j) := ⟨fun z => ⟨z.1, (c.symm hk).trans z.2⟩, fun z => ⟨z.1, c.trans z.2⟩⟩
  cases h1 : bt y j <;> cases h2 : bt y' j
  · rfl
  · exact absurd (a.mpr (this.mpr (b.mp h2))) (by rw [h1]; decide)
  · exact absurd (b.mpr (this.mp (a.mp h1))) (by rw [h2]; decide)
  · rfl
def occM (l : List Int32) (x : Int32) (v : Nat) : Bool := (List.range l.length).any (fun k => bt x k && bt (vRow l k) v)
def nvM (l : List Int32) (x : Int32) : Nat := fb_ct (occM l x) 10
theorem occM_iff {l : List Int32} {x : Int32} {v : Nat} : occM l x v = true ↔ ∃ k, k < l.length ∧ bt x k = true ∧ bt (vRow l k) v = true := by
  unfold occM
  rw [List.any_eq_true]
  constructor
  · rintro ⟨k, hk, h⟩
    rw [Bool.and_eq_true] at h
    exact ⟨k, List.mem_range.mp hk, h⟩
  · rintro ⟨k, hk, h⟩
    exact ⟨k, List.mem_range.mpr hk, by rw [Bool.and_eq_true]; exact h⟩
theorem occ_prt {l : List Int32} {y : Int32} {v : Nat} : occ (prtR l y) v = occM l y v := by
  have : occ (prtR l y) v = true ↔ occM l y v = true := by
    rw [occ_iff, occM_iff]
    constructor
    · rintro ⟨c, hc, h⟩
      obtain ⟨j, h1, h2, rfl⟩ := prtR_mem.mp hc
      exact ⟨j, h1, h2, h⟩
    · rintro ⟨j, h1, h2, h3⟩
      exact ⟨l.getD j 0, prtR_mem.mpr ⟨j, h1, h2, rfl⟩, h3⟩
  cases h1 : occ (prtR l y) v <;> cases h2 : occM l y v
  · rfl
  · exact absurd (this.mpr h2) (by rw [h1]; decide)
  · exact absurd (this.mp h1) (by rw [h2]; decide)
  · rfl
theorem nv_prt {l : List Int32} {y : Int32} : nvR (prtR l y) = nvM l y := fb_ct_cong (fun k _ => occ_prt)
theorem nvM_le (l : List Int32) (x : Int32) : nvM l x ≤ nvR l := fb_ct_sub (fun v _ h => by
  obtain ⟨k, h1, _, h3⟩ := occM_iff.mp h
  exact occ_row.mpr ⟨k, h1, h3⟩)
theorem nvM_0 (l : List Int32) : nvM l 0 = 0 := fb_ct_zero.mpr (fun v _ => ts_nt (fun h => by
  obtain ⟨k, _, h2, _⟩ := occM_iff.mp h
  rw [b_0] at h2
  cases h2))
/-- parts that are done: x their places, K their rows -/
def andI (l : List Int32) (x : Int32) (K : List (List Int32)) : Prop :=
  (∀ k, k < 32 → bt x k = true → k < l.length) ∧ K.Nodup ∧ (∀ m ∈ K, ∃ k y, k < l.length ∧ cnOK (vRow l) l.length k y ∧ m = prtR l y ∧ ∀ j, j < 32 → bt y j = true → bt x j = true) ∧
  (∀ j, j < 32 → bt x j = true → ∃ k y, k < l.length ∧ cnOK (vRow l) l.length k y ∧ bt y j = true ∧ prtR l y ∈ K ∧ ∀ q, q < 32 → bt y q = true → bt x q = true)
theorem andI_0 (l : List Int32) : andI l 0 [] := ⟨(fun k _ h => by rw [b_0] at h; cases h), List.nodup_nil, (fun m hm => by cases hm), (fun j _ h => by rw [b_0] at h; cases h)⟩
theorem nd_idx {l : List Int32} (h : l.Nodup) {i j : Nat} (hi : i < l.length) (hj : j < l.length) (e : l.getD i 0 = l.getD j 0) : i = j := by
  rw [getD_of hi, getD_of hj] at e
  exact (List.getElem_inj h).mp e
/-- the places done are closed under sharing a variable -/
theorem andI_cl {l : List Int32} {x : Int32} {K : List (List Int32)} (hl : l.length ≤ 16) (a : andI l x K) {i j : Nat} (hi : bt x i = true) (c : CC (vRow l) l.length i j) : bt x j = true := by
  have hi32 : i < 32 := by
    apply Decidable.byContradiction
    intro z
    rw [b_big (by omega)] at hi
    cases hi
  have il := a.1 i hi32 hi
  have jl := c.lt il
  obtain ⟨k, y, hk, cy, hy, hm, hs⟩ := a.2.2.2 i hi32 hi
  have ck := (cy i hi32).mp hy
  exact hs j (by omega) ((cy j (by omega)).mpr ⟨jl, ck.2.trans c⟩)
theorem andI_s {l : List Int32} {x y : Int32} {K : List (List Int32)} {k0 : Nat} (hl : l.length ≤ 16) (nd : l.Nodup) (a : andI l x K) (hk : k0 < l.length) (hb : bt x k0 = false) (cy : cnOK (vRow l) l.length k0 y) : andI l (x ||| y) (prtR l y :: K) := by
  have yk : bt y k0 = true := (cy k0 (by omega)).mpr ⟨hk, CC.rf⟩
  have or1 : ∀ q, bt x q = true → bt (x ||| y) q = true := fun q h => by rw [b_or, h]; rfl
  have or2 : ∀ q, bt y q = true → bt (x ||| y) q = true := fun q h => by rw [b_or, h, Bool.or_true]
  refine ⟨fun k h1 h2 => ?_, List.nodup_cons.mpr ⟨fun hm => ?_, a.2.1⟩, fun m hm => ?_, fun j h1 h2 => ?_⟩
  · rw [b_or, Bool.or_eq_true] at h2
    rcases h2 with h2 | h2
    · exact a.1 k h1 h2
    · exact ((cy k h1).mp h2).1
  · obtain ⟨k', y', hk', cy', e, hs⟩ := a.2.2.1 _ hm
    have h1 : l.getD k0 0 ∈ prtR l y := prtR_mem.mpr ⟨k0, hk, yk, rfl⟩
    rw [e] at h1
    obtain ⟨q, q1, q2, q3⟩ := prtR_mem.mp h1
    have := nd_idx nd hk q1 q3
    subst this
    rw [hs k0 (by omega) q2] at hb
    cases hb
  · rcases List.mem_cons.mp hm with rfl | hm
    · exact ⟨k0, y, hk, cy, rfl, fun j _ h => or2 j h⟩
    · obtain ⟨k, y', h1, h2, h3, h4⟩ := a.2.2.1 m hm
      exact ⟨k, y', h1, h2, h3, fun j hj h => or1 j (h4 j hj h)⟩
  · rw [b_or, Bool.or_eq_true] at h2
    rcases h2 with h2 | h2
    · obtain ⟨k, y', z1, z2, z3, z4, z5⟩ := a.2.2.2 j h1 h2
      exact ⟨k, y', z1, z2, z3, List.mem_cons_of_mem _ z4, fun q hq h => or1 q (z5 q hq h)⟩
    · exact ⟨k0, y, hk, cy, h2, List.mem_cons_self, fun q _ h => or2 q h⟩
theorem andI_nv {l : List Int32} {x y : Int32} {K : List (List Int32)} {k0 : Nat} (hl : l.length ≤ 16) (a : andI l x K) (hk : k0 < l.length) (hb : bt x k0 = false) (cy : cnOK (vRow l) l.length k0 y) : nvM l (x ||| y) = nvM l x + nvM l y := by
  have h1 : nvM l (x ||| y) = fb_ct (fun v => occM l x v || occM l y v) 10 := fb_ct_cong (fun v _ => by
    have : occM l (x ||| y) v = true ↔ (occM l x v || occM l y v) = true := by
      rw [Bool.or_eq_true, occM_iff, occM_iff, occM_iff]
      constructor
      · rintro ⟨k, h1, h2, h3⟩
        rw [b_or, Bool.or_eq_true] at h2
        rcases h2 with h2 | h2
        · exact Or.inl ⟨k, h1, h2, h3⟩
        · exact Or.inr ⟨k, h1, h2, h3⟩
      · rintro (⟨k, h1, h2, h3⟩ | ⟨k, h1, h2, h3⟩)
        · exact ⟨k, h1, by rw [b_or, h2]; rfl, h3⟩
        · exact ⟨k, h1, by rw [b_or, h2, Bool.or_true], h3⟩
    cases z1 : occM l (x ||| y) v <;> cases z2 : (occM l x v || occM l y v)
    · rfl
    · exact absurd (this.mpr z2) (by rw [z1]; decide)
    · exact absurd (this.mp z1) (by rw [z2]; decide)
    · rfl)
  rw [h1]
  refine fb_ct_or (fun v hv h => ?_)
  obtain ⟨k, a1, a2, a3⟩ := occM_iff.mp h.1
  obtain ⟨k', b1, b2, b3⟩ := occM_iff.mp h.2
  have c1 : CC (vRow l) l.length k k' := CC.rf.st b1 ⟨v, by omega, a3, b3⟩
  have c2 := ((cy k' (by omega)).mp b2).2.symm hk
  rw [andI_cl hl a a2 (c1.trans c2)] at hb
  cases hb
/-! the kids of a row -/
def KdR (l m : List Int32) : Prop := (conR l ∧ (m = resR (-nI (mfR l 10).1) l ∨ m = resR (nI (mfR l 10).1) l)) ∨ (¬ conR l ∧ ∃ k y, k < l.length ∧ cnOK (vRow l) l.length k y ∧ m = prtR l y)
theorem andI_end {l : List Int32} {x : Int32} {K : List (List Int32)} (hl : l.length ≤ 16) (a : andI l x K) (hx : x = (1 : Int32) <<< (nI l.length &&& 31) - 1) (hc : ¬ conR l) (m : List Int32) : m ∈ K ↔ KdR l m := by
  constructor
  · intro hm
    obtain ⟨k, y, h1, h2, h3, _⟩ := a.2.2.1 m hm
    exact Or.inr ⟨hc, k, y, h1, h2, h3⟩
  · rintro (⟨h, _⟩ | ⟨_, k, y, h1, h2, rfl⟩)
    · exact absurd h hc
    · have hb : bt x k = true := by rw [hx, low_mask _ (by omega) k (by omega), decide_eq_true h1]
      obtain ⟨k', y', z1, z2, z3, z4, _⟩ := a.2.2.2 k (by omega) hb
      have := cn_eq z1 z2 h2 ((z2 k (by omega)).mp z3).2
      rw [← this]
      exact z4
theorem part_nv {l : List Int32} (h : VR l) (hn : ntR l) (hc : ¬ conR l) {k : Nat} {y : Int32} (hk : k < l.length) (cy : cnOK (vRow l) l.length k y) : nvM l y < nvR l ∧ 0 < nvM l y := by
  have hl := h.1
  have z0 := nt_mem h hn
  have hv : ∀ q, q < l.length → ∃ v, v < 10 ∧ bt (vRow l q) v = true := fun q hq => nz_var (h.2.1 _ (getD_mem hq)) (fun e => z0 (e ▸ getD_mem hq))
  constructor
  · have : ∃ q, q < l.length ∧ ¬ CC (vRow l) l.length k q := by
      apply Classical.byContradiction
      intro hx
      apply hc
      intro q hq
      have h0 : CC (vRow l) l.length k 0 := Classical.byContradiction (fun z => hx ⟨0, by omega, z⟩)
      have hq' : CC (vRow l) l.length k q := Classical.byContradiction (fun z => hx ⟨q, hq, z⟩)
      exact (h0.symm hk).trans hq'
    obtain ⟨q, hq, hnc⟩ := this
    obtain ⟨v, hv1, hv2⟩ := hv q hq
    refine ct_lt hv1 (ts_nt (fun z => ?_)) (occ_row.mpr ⟨q, hq, hv2⟩) (fun w _ z => ?_)
    · obtain ⟨j, j1, j2, j3⟩ := occM_iff.mp z
      exact hnc (((cy j (by omega)).mp j2).2.st hq ⟨v, by omega, j3, hv2⟩)
    · obtain ⟨j, j1, _, j3⟩ := occM_iff.mp z
      exact occ_row.mpr ⟨j, j1, j3⟩
  · obtain ⟨v, hv1, hv2⟩ := hv k hk
    exact fb_ct_pos.mpr ⟨v, hv1, occM_iff.mpr ⟨k, hk, (cy k (by omega)).mpr ⟨hk, CC.rf⟩, hv2⟩⟩
/-- a kid has fewer variables, and is a row again -/
theorem kd_nv {l m : List Int32} (h : VR l) (hn : ntR l) (k : KdR l m) : VR m ∧ nvR m < nvR l := by
  rcases k with ⟨_, hm⟩ | ⟨hc, k, y, hk, cy, rfl⟩
  · obtain ⟨v, hv, e, ho⟩ := mf_occ h hn
    rw [e] at hm
    rcases hm with rfl | rfl
    · exact ⟨resR_VR h _, res_nv hv ho (Or.inr rfl)⟩
    · exact ⟨resR_VR h _, res_nv hv ho (Or.inl rfl)⟩
  · rw [nv_prt]
    exact ⟨prtR_VR h y, (part_nv h hn hc hk cy).1⟩
/-! depth, as a relation: f bounds how far down is looked -/
def DpG (nt : List Int32 → Prop) (Kd : List Int32 → List Int32 → Prop) : Nat → List Int32 → Nat → Prop
  | 0, _, _ => False
  | f + 1, l, d => (¬ nt l ∧ d = 0) ∨ (nt l ∧ ∃ e, d = e + 1 ∧ (∀ m, Kd l m → ∃ e', e' ≤ e ∧ DpG nt Kd f m e') ∧ (e = 0 ∨ ∃ m, Kd l m ∧ DpG nt Kd f m e))
theorem DpG.s {nt : List Int32 → Prop} {Kd : List Int32 → List Int32 → Prop} : ∀ {f : Nat} {l : List Int32} {d : Nat}, DpG nt Kd f l d → DpG nt Kd (f + 1) l d
  | 0, _, _, h => False.elim h
  | f + 1, l, d, h => by
    rcases h with h | ⟨h1, e, h2, h3, h4⟩
    · exact Or.inl h
    · refine Or.inr ⟨h1, e, h2, fun m hm => ?_, ?_⟩
      · obtain ⟨e', z1, z2⟩ := h3 m hm
        exact ⟨e', z1, z2.s⟩
      · rcases h4 with h4 | ⟨m, z1, z2⟩
        · exact Or.inl h4
        · exact Or.inr ⟨m, z1, z2.s⟩
theorem DpG.mono {nt : List Int32 → Prop} {Kd : List Int32 → List Int32 → Prop} {f g : Nat} {l : List Int32} {d : Nat} (h : DpG nt Kd f l d) (hg : f ≤ g) : DpG nt Kd g l d := by
  obtain ⟨k, rfl⟩ : ∃ k, g = f + k := ⟨g - f, by omega⟩
  induction k with
  | zero => exact h
  | succ k ih => exact (ih (by omega)).s
abbrev DpR : Nat → List Int32 → Nat → Prop := DpG ntR KdR
/-- reached in some steps -/
def RcG (nt : List Int32 → Prop) (Kd : List Int32 → List Int32 → Prop) (l : List Int32) : Nat → List Int32 → Prop
  | 0, m => m = l
  | k + 1, m => ∃ p, RcG nt Kd l k p ∧ nt p ∧ Kd p m
def Rch (nt : List Int32 → Prop) (Kd : List Int32 → List Int32 → Prop) (l m : List Int32) : Prop := ∃ k, RcG nt Kd l k m
theorem Rch.rf {nt : List Int32 → Prop} {Kd : List Int32 → List Int32 → Prop} {l : List Int32} : Rch nt Kd l l := ⟨0, rfl⟩
theorem Rch.st {nt : List Int32 → Prop} {Kd : List Int32 → List Int32 → Prop} {l p m : List Int32} (x : Rch nt Kd l p) (hp : nt p) (hk : Kd p m) : Rch nt Kd l m := by
  obtain ⟨k, x⟩ := x
  exact ⟨k + 1, p, x, hp, hk⟩
theorem Rch.ind {nt : List Int32 → Prop} {Kd : List Int32 → List Int32 → Prop} {l : List Int32} {P : List Int32 → Prop} (h0 : P l) (h1 : ∀ p m, Rch nt Kd l p → P p → nt p → Kd p m → P m) {m : List Int32} (x : Rch nt Kd l m) : P m := by
  obtain ⟨k, x⟩ := x
  induction k generalizing m with
  | zero => rw [show m = l from x]; exact h0
  | succ k ih =>
    obtain ⟨p, x1, x2, x3⟩ := x
    exact h1 p m ⟨k, x1⟩ (ih x1) x2 x3
theorem Rch.trans {nt : List Int32 → Prop} {Kd : List Int32 → List Int32 → Prop} {l p m : List Int32} (x : Rch nt Kd l p) (y : Rch nt Kd p m) : Rch nt Kd l m := Rch.ind (P := fun m => Rch nt Kd l m) x (fun _ _ _ h1 h2 h3 => h1.st h2 h3) y
/-! numbers of nodes -/
def f2 (n : Nat) : Nat := 2 ^ n - 1
theorem f2_mono {a b : Nat} (h : a ≤ b) : f2 a ≤ f2 b := by
  unfold f2
  have := Nat.pow_le_pow_right (show 0 < 2 by decide) h
  omega
theorem f2_add (a b : Nat) : f2 a + f2 b ≤ f2 (a + b) := by
  unfold f2
  have h1 := Nat.one_le_two_pow (n := a)
  have h2 := Nat.one_le_two_pow (n := b)
  rw [Nat.pow_add]
  generalize 2 ^ a = p at *
  generalize 2 ^ b = q at *
  obtain ⟨p', rfl⟩ : ∃ p', p = p' + 1 := ⟨p - 1, by omega⟩
  obtain ⟨q', rfl⟩ : ∃ q', q = q' + 1 := ⟨q - 1, by omega⟩
  have : (p' + 1) * (q' + 1) = p' * q' + p' + q' + 1 := by rw [Nat.add_mul, Nat.mul_add]; omega
  omega
theorem f2_add1 {a b : Nat} (ha : 0 < a) (hb : 0 < b) : f2 a + f2 b + 1 ≤ f2 (a + b) := by
  unfold f2
  obtain ⟨a', rfl⟩ : ∃ a', a = a' + 1 := ⟨a - 1, by omega⟩
  obtain ⟨b', rfl⟩ : ∃ b', b = b' + 1 := ⟨b - 1, by omega⟩
  have h1 := Nat.one_le_two_pow (n := a')
  have h2 := Nat.one_le_two_pow (n := b')
  have e : 2 ^ (a' + 1 + (b' + 1)) = 2 ^ a' * 2 ^ b' * (2 * 2) := by rw [Nat.pow_add, Nat.pow_succ, Nat.pow_succ, Nat.mul_mul_mul_comm]
  rw [e, Nat.pow_succ, Nat.pow_succ]
  generalize 2 ^ a' = p at *
  generalize 2 ^ b' = q at *
  obtain ⟨p', rfl⟩ : ∃ p', p = p' + 1 := ⟨p - 1, by omega⟩
  obtain ⟨q', rfl⟩ : ∃ q', q = q' + 1 := ⟨q - 1, by omega⟩
  have : (p' + 1) * (q' + 1) = p' * q' + p' + q' + 1 := by rw [Nat.add_mul, Nat.mul_add]; omega
  omega
theorem f2_s (n : Nat) : 2 * f2 n + 1 = f2 (n + 1) := by
  unfold f2
  have h1 := Nat.one_le_two_pow (n := n)
  rw [Nat.pow_succ]
  omega
