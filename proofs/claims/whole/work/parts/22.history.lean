/-! CnfCompiler.History: its cells are 4 (itself), 5 (its row) and five States at 6, 9, 12, 15, 18 -/
abbrev SC : Type := Int32 × Int32 × (Nat → Int32) × (Nat → Int32)
/-- a State at a holds count, assumed, clauses and weights -/
def SV (h : Hp) (a : Nat) (S : SC) : Prop := h[a]? = some (obS (a + 1) S.1 S.2.1 (a + 2)) ∧ (∃ f, h[a + 1]? = some (aI 16 f) ∧ ∀ j, j < 16 → f j = S.2.2.1 j) ∧ (∃ g, h[a + 2]? = some (aI 22 g) ∧ ∀ j, j < 22 → g j = S.2.2.2 j)
theorem SV.fr {T : List Nat} {h h' : Hp} {a : Nat} {S : SC} (x : SV h a S) (F : Fr T h h') (h1 : a ∉ T) (h2 : a + 1 ∉ T) (h3 : a + 2 ∉ T) : SV h' a S := by
  obtain ⟨x1, ⟨f, x2, x3⟩, g, x4, x5⟩ := x
  exact ⟨F.at h1 x1, ⟨f, F.at h2 x2, x3⟩, g, F.at h3 x4, x5⟩
theorem SV.keep {h h' : Hp} {a : Nat} {S : SC} (x : SV h a S) (h1 : h'[a]? = h[a]?) (h2 : h'[a + 1]? = h[a + 1]?) (h3 : h'[a + 2]? = h[a + 2]?) : SV h' a S := by
  obtain ⟨x1, ⟨f, x2, x3⟩, g, x4, x5⟩ := x
  exact ⟨h1.trans x1, ⟨f, h2.trans x2, x3⟩, g, h3.trans x4, x5⟩
theorem sp_copyFrom' (d : Nat) {h : Hp} {a b : Nat} {S S' : SC} (ha : SV h a S) (hb : SV h b S') (hab : a + 3 ≤ b ∨ b + 3 ≤ a) :
    Mq mX6_copyFrom (d + 1) [.ref a, .ref b] h (fun r h' => r = none ∧ Fr [a, a + 1, a + 2] h h' ∧ SV h' a S') := by
  obtain ⟨a1, ⟨f, a2, a3⟩, g, a4, a5⟩ := ha
  obtain ⟨b1, ⟨f', b2, b3⟩, g', b4, b5⟩ := hb
  refine (sp_copyFrom d a1 a2 a4 b1 b2 b4 (by omega) (by omega) (by omega) (by omega) (by omega) (by omega) (by omega)).mono ?_
  rintro r h' ⟨e1, e2, e3, e4, e5⟩
  refine ⟨e1, e2, e3, ⟨_, e4, fun j hj => ?_⟩, _, e5, fun j hj => ?_⟩
  · rw [pk_cpy_in (by omega) (by omega)]
    simpa using b3 j hj
  · rw [pk_cpy_in (by omega) (by omega)]
    simpa using b5 j hj
/-- which States may be saved ones -/
def sOK (a : Nat) : Prop := a = 6 ∨ a = 9 ∨ a = 12 ∨ a = 15 ∨ a = 18
abbrev hCells : List Nat := [4, 5, 6, 7, 8, 9, 10, 11, 12, 13, 14, 15, 16, 17, 18, 19, 20]
def HI (h : Hp) (q : Nat → Nat) (k : Nat) (sv : Nat → SC) : Prop :=
  h[4]? = some (.inr (4, [.ref 5, .int (nI k)])) ∧ (∃ f, h[5]? = some (aS 5 f) ∧ ∀ i, i < 5 → f i = some (q i)) ∧ (∀ i, i < 5 → sOK (q i)) ∧ (∀ i j, i < 5 → j < 5 → q i = q j → i = j) ∧ ∀ i, i < 5 → SV h (q i) (sv i)
def rotf {α : Type} (f : Nat → α) (i : Nat) : Nat → α := fun j => if j < i then f (j + 1) else f j
theorem rotf_s (f : Nat → Option Nat) (i : Nat) {v : Nat} (hv : f (i + 1) = some v) : va_up (rotf f i) i (some v) = rotf f (i + 1) := by
  funext j
  simp only [va_up, rotf]
  by_cases h1 : j = i
  · subst h1; rw [if_pos rfl, if_pos (by omega), hv]
  · by_cases h2 : j < i
    · rw [if_neg h1, if_pos h2, if_pos (by omega)]
    · rw [if_neg h1, if_neg h2, if_neg (by omega)]
/-- the row turned by one -/
def rot5 {α : Type} (f : Nat → α) : Nat → α := fun j => if j < 4 then f (j + 1) else f 0
theorem drop_loop (d : Nat) (h : Hp) {k : Nat} {f : Nat → Option Nat} {q : Nat → Nat} (h4 : h[4]? = some (.inr (4, [.ref 5, .int (nI k)]))) (h5 : h[5]? = some (aS 5 f)) (hf : ∀ i, i < 5 → f i = some (q i)) (hq : ∀ i, i < 5 → ∃ vs, h[q i]? = some (.inr (6, vs)) ∧ q i ≠ 5) : ∀ (n i : Nat), i + n = 4 → Rx mX4_dropOldest d 9 [.ref 4, .ref (q 0), .int (nI i)] [] (h.set 5 (aS 5 (rotf f i))) none ((h.set 5 (aS 5 (va_up (rotf f 4) 4 (some (q 0))))).set 4 (.inr (4, [.ref 5, .int 4]))) := by
  intro n
  induction n with
  | zero =>
    intro i hi
    have e : i = 4 := by omega
    subst e
    have h41 := hNs (e' := aS 5 (rotf f 4)) (by decide : (5 : Nat) ≠ 4) h4
    have h51 := hS (aS 5 (rotf f 4)) h5
    obtain ⟨vs, v1, v2⟩ := hq 0 (by decide)
    have v3 := hNs (e' := aS 5 (rotf f 4)) (Ne.symm v2) v1
    refine Rx_iload_n dX4_dropOldest_9 rfl ?_
    refine Rx_iconst (1) dX4_dropOldest_10 (by decide) ?_
    refine Rx_iadd dX4_dropOldest_11 ?_
    refine Rx_iconst (5) dX4_dropOldest_12 (by decide) ?_
    refine Rx_icmp_ge_t 36 dX4_dropOldest_13 (by decide) (by rw [nI_1]; exact nI_le (by decide) (by decide)) ?_
    refine Rx_aload_n dX4_dropOldest_36 rfl ?_
    refine Rx_get dX4_dropOldest_37 flX4_11 h41 rfl ?_
    refine Rx_iconst (4) dX4_dropOldest_40 (by decide) ?_
    refine Rx_aload_n dX4_dropOldest_41 rfl ?_
    refine Rx_aast 4 dX4_dropOldest_42 h51 (by decide) (by decide) rfl v3 ?_
    rw [List.set_set]
    have h42 := hNs (e' := aS 5 (va_up (rotf f 4) 4 (some (q 0)))) (by decide : (5 : Nat) ≠ 4) h4
    refine Rx_aload_n dX4_dropOldest_43 rfl ?_
    refine Rx_iconst (4) dX4_dropOldest_44 (by decide) ?_
    refine Rx_put [_, _] dX4_dropOldest_45 fpX4_18 h42 rfl (okv_i _) rfl ?_
    exact Rx_vret dX4_dropOldest_48 rfl
  | succ n ih =>
    intro i hi
    have h41 := hNs (e' := aS 5 (rotf f i)) (by decide : (5 : Nat) ≠ 4) h4
    have h51 := hS (aS 5 (rotf f i)) h5
    obtain ⟨vs, v1, v2⟩ := hq (i + 1) (by omega)
    have v3 := hNs (e' := aS 5 (rotf f i)) (Ne.symm v2) v1
    have e1 : rotf f i (i + 1) = some (q (i + 1)) := by simp only [rotf]; rw [if_neg (by omega)]; exact hf _ (by omega)
    refine Rx_iload_n dX4_dropOldest_9 rfl ?_
    refine Rx_iconst (1) dX4_dropOldest_10 (by decide) ?_
    refine Rx_iadd dX4_dropOldest_11 ?_
    refine Rx_iconst (5) dX4_dropOldest_12 (by decide) ?_
    refine Rx_icmp_ge_f 36 dX4_dropOldest_13 (by decide) (by rw [nI_1]; exact nI_ge (b := 5) (by omega) (by decide)) ?_
    refine Rx_aload_n dX4_dropOldest_16 rfl ?_
    refine Rx_get dX4_dropOldest_17 flX4_11 h41 rfl ?_
    refine Rx_iload_n dX4_dropOldest_20 rfl ?_
    refine Rx_aload_n dX4_dropOldest_21 rfl ?_
    refine Rx_get dX4_dropOldest_22 flX4_11 h41 rfl ?_
    refine Rx_iload_n dX4_dropOldest_25 rfl ?_
    refine Rx_iconst (1) dX4_dropOldest_26 (by decide) ?_
    refine Rx_iadd dX4_dropOldest_27 ?_
    refine Rx_aald (i + 1) dX4_dropOldest_28 h51 (by omega) (by decide) (nI_1 i) e1 ?_
    refine Rx_aast i dX4_dropOldest_29 h51 (by omega) (by decide) rfl v3 ?_
    rw [List.set_set, rotf_s f i (hf _ (by omega))]
    refine Rx_iinc [_, _, _] (1) dX4_dropOldest_30 rfl (by decide) rfl rfl rfl ?_
    refine Rx_goto 9 dX4_dropOldest_33 (by decide) ?_
    rw [nI_1]
    exact ih (i + 1) (by omega)
theorem sp_drop (d : Nat) {h : Hp} {k : Nat} {f : Nat → Option Nat} {q : Nat → Nat} (h4 : h[4]? = some (.inr (4, [.ref 5, .int (nI k)]))) (h5 : h[5]? = some (aS 5 f)) (hf : ∀ i, i < 5 → f i = some (q i)) (hq : ∀ i, i < 5 → ∃ vs, h[q i]? = some (.inr (6, vs)) ∧ q i ≠ 5) :
    Mx mX4_dropOldest d [.ref 4] h none ((h.set 5 (aS 5 (va_up (rotf f 4) 4 (some (q 0))))).set 4 (.inr (4, [.ref 5, .int 4]))) := by
  refine Mx_of [_, _, _] (by decide +kernel) rfl rfl ?_
  refine Rx_aload_n dX4_dropOldest_0 rfl ?_
  refine Rx_get dX4_dropOldest_1 flX4_11 h4 rfl ?_
  refine Rx_iconst (0) dX4_dropOldest_4 (by decide) ?_
  refine Rx_aald 0 dX4_dropOldest_5 h5 (by decide) (by decide) rfl (hf 0 (by decide)) ?_
  refine Rx_astore_n [_, _, _] dX4_dropOldest_6 rfl rfl rfl ?_
  refine Rx_iconst (0) dX4_dropOldest_7 (by decide) ?_
  refine Rx_istore_n [_, _, _] dX4_dropOldest_8 rfl rfl rfl ?_
  have := drop_loop d h h4 h5 hf hq 4 0 (by decide)
  rw [show rotf f 0 = f from by funext j; simp [rotf], hset_id h5] at this
  exact this
theorem sOK.lo {a : Nat} (h : sOK a) : 6 ≤ a ∧ a ≤ 18 := by rcases h with h | h | h | h | h <;> omega
theorem sOK.apart {a b : Nat} (h : sOK a) (h' : sOK b) (hne : a ≠ b) : a + 3 ≤ b ∨ b + 3 ≤ a := by
  rcases h with h | h | h | h | h <;> rcases h' with h' | h' | h' | h' | h' <;> omega
theorem HI_drop {h : Hp} {q : Nat → Nat} {k : Nat} {sv : Nat → SC} (x : HI h q k sv) (d : Nat) : Mq mX4_dropOldest d [.ref 4] h (fun r h' => r = none ∧ Fr hCells h h' ∧ HI h' (rot5 q) 4 (rot5 sv)) := by
  obtain ⟨h4, ⟨f, h5, hf⟩, ho, hi, hs⟩ := x
  have hq : ∀ i, i < 5 → ∃ vs, h[q i]? = some (.inr (6, vs)) ∧ q i ≠ 5 := fun i hh => ⟨_, (hs i hh).1, by have := (ho i hh).lo; omega⟩
  refine Mx.q (sp_drop d h4 h5 hf hq) ⟨rfl, Fr.trans (Fr.set (by decide)) (Fr.set (by decide)), hS _ (hNs (by decide) h4), ⟨_, hNs (by decide) (hS _ h5), fun i hh => ?_⟩, fun i hh => ?_, fun i j h1 h2 e => ?_, fun i hh => ?_⟩
  · by_cases c : i = 4
    · subst c; simp [va_up, rot5]
    · simp only [va_up, rot5, rotf]
      rw [if_neg c, if_pos (by omega), if_pos (by omega)]
      exact hf _ (by omega)
  · simp only [rot5]
    split
    · exact ho _ (by omega)
    · exact ho _ (by decide)
  · simp only [rot5] at e
    split at e <;> split at e
    · have := hi _ _ (by omega) (by omega) e; omega
    · have := hi _ _ (by omega) (by omega) e; omega
    · have := hi _ _ (by omega) (by omega) e; omega
    · omega
  · have key : ∀ j, j < 5 → SV ((h.set 5 (aS 5 (va_up (rotf f 4) 4 (some (q 0))))).set 4 (.inr (4, [.ref 5, .int 4]))) (q j) (sv j) := by
      intro j hj
      have l := (ho j hj).lo
      exact (hs j hj).keep (by rw [hN (by omega), hN (by omega)]) (by rw [hN (by omega), hN (by omega)]) (by rw [hN (by omega), hN (by omega)])
    simp only [rot5]
    split
    · exact key _ (by omega)
    · exact key _ (by decide)
/-- a state is written behind the last saved one -/
theorem HI_put {h : Hp} {q : Nat → Nat} {k : Nat} {sv : Nat → SC} {S : SC} {f : Nat → Option Nat} (h4 : h[4]? = some (.inr (4, [.ref 5, .int (nI k)]))) (h5 : h[5]? = some (aS 5 f)) (hf : ∀ i, i < 5 → f i = some (q i)) (ho : ∀ i, i < 5 → sOK (q i)) (hi : ∀ i j, i < 5 → j < 5 → q i = q j → i = j) (hs : ∀ i, i < 5 → SV h (q i) (sv i)) (hk : k < 5) {h1 : Hp} (F : Fr [q k, q k + 1, q k + 2] h h1) (hn : SV h1 (q k) S) :
    HI (h1.set 4 (.inr (4, [.ref 5, .int (nI (k + 1))]))) q (k + 1) (va_up sv k S) ∧ Fr hCells h (h1.set 4 (.inr (4, [.ref 5, .int (nI (k + 1))]))) := by
  have lk := (ho k hk).lo
  have n4 : (4 : Nat) ∉ [q k, q k + 1, q k + 2] := by simp; omega
  have n5 : (5 : Nat) ∉ [q k, q k + 1, q k + 2] := by simp; omega
  refine ⟨⟨hS _ (F.at n4 h4), ⟨f, hNs (by decide) (F.at n5 h5), hf⟩, ho, hi, fun i hh => ?_⟩, Fr.trans (F.mono (fun z hz => ?_)) (Fr.set (by decide))⟩
  · have li := (ho i hh).lo
    simp only [va_up]
    by_cases c : i = k
    · subst c
      rw [if_pos rfl]
      exact hn.keep (hN (by omega)) (hN (by omega)) (hN (by omega))
    · rw [if_neg c]
      have ap := (ho i hh).apart (ho k hk) (fun z => c (hi i k hh hk z))
      have x := (hs i hh).fr F (by simp; omega) (by simp; omega) (by simp; omega)
      exact x.keep (hN (by omega)) (hN (by omega)) (hN (by omega))
  · have : z = q k ∨ z = q k + 1 ∨ z = q k + 2 := by simpa using hz
    rcases ho k hk with e | e | e | e | e <;> rcases this with t | t | t <;> (rw [t, e]; decide)
/-- what the saved states are behind a save -/
def svSave (k : Nat) (sv : Nat → SC) (S : SC) : Nat → SC := if k < 5 then va_up sv k S else va_up (rot5 sv) 4 S
theorem sp_save (d : Nat) {h : Hp} {q : Nat → Nat} {k : Nat} {sv : Nat → SC} {S : SC} (x : HI h q k sv) (hk : k ≤ 5) (hS1 : SV h 1 S) : Mq mX4_save (d + 2) [.ref 4, .ref 1] h (fun r h' => r = none ∧ Fr hCells h h' ∧ ∃ q', HI h' q' (min k 4 + 1) (svSave k sv S)) := by
  by_cases c : k < 5
  · obtain ⟨h4, ⟨f, h5, hf⟩, ho, hi, hs⟩ := x
    have lk := (ho k c).lo
    refine Mq_of [_, _, _] (by decide +kernel) rfl rfl ?_
    refine Rq_aload_n dX4_save_0 rfl ?_
    refine Rq_get dX4_save_1 flX4_18 h4 rfl ?_
    refine Rq_iconst (5) dX4_save_4 (by decide) ?_
    refine Rq_icmp_lt_t 12 dX4_save_5 (by decide) (nI_lt c (by decide)) ?_
    refine Rq_aload_n dX4_save_12 rfl ?_
    refine Rq_get dX4_save_13 flX4_11 h4 rfl ?_
    refine Rq_aload_n dX4_save_16 rfl ?_
    refine Rq_get dX4_save_17 flX4_18 h4 rfl ?_
    refine Rq_aald k dX4_save_20 h5 c (by decide) rfl (hf k c) ?_
    refine Rq_astore_n [_, _, _] dX4_save_21 rfl rfl rfl ?_
    refine Rq_aload_n dX4_save_22 rfl ?_
    refine Rq_ifnull dX4_save_23 ?_
    refine Rq_aload_n dX4_save_26 rfl ?_
    refine Rq_aload_n dX4_save_27 rfl ?_
    refine Rq_callVq [_] dX4_save_28 clX4_25 rfl ((hs k c).1) (sp_copyFrom' d (hs k c) hS1 (by omega)) rfl rfl rfl (fun rv h1 hq => ?_)
    obtain ⟨rfl, F, hn⟩ := hq
    have h41 : h1[4]? = some (.inr (4, [.ref 5, .int (nI k)])) := F.at (by simp; omega) h4
    refine Rq_aload_n dX4_save_31 rfl ?_
    refine Rq_dup dX4_save_32 rfl ?_
    refine Rq_get dX4_save_33 flX4_18 h41 rfl ?_
    refine Rq_iconst (1) dX4_save_36 (by decide) ?_
    refine Rq_iadd dX4_save_37 ?_
    refine Rq_put [_, _] dX4_save_38 fpX4_18 h41 rfl (okv_i _) rfl ?_
    rw [nI_1]
    refine Rq_vret dX4_save_41 rfl ?_
    obtain ⟨g1, g2⟩ := HI_put h4 h5 hf ho hi hs c F hn
    exact ⟨rfl, g2, q, by rw [show min k 4 = k by omega]; simp only [svSave, if_pos c]; exact g1⟩
  · have e : k = 5 := by omega
    subst e
    have h40 := x.1
    refine Mq_of [_, _, _] (by decide +kernel) rfl rfl ?_
    refine Rq_aload_n dX4_save_0 rfl ?_
    refine Rq_get dX4_save_1 flX4_18 h40 rfl ?_
    refine Rq_iconst (5) dX4_save_4 (by decide) ?_
    refine Rq_icmp_lt_f 12 dX4_save_5 (by decide) (nI_nlt (by decide) (by decide)) ?_
    refine Rq_aload_n dX4_save_8 rfl ?_
    refine Rq_callVq [] dX4_save_9 clX4_22 rfl h40 (HI_drop x (d + 1)) rfl rfl rfl (fun rv h1 hq => ?_)
    obtain ⟨rfl, F0, h4, ⟨f, h5, hf⟩, ho, hi, hs⟩ := hq
    have lk := (ho 4 (by decide)).lo
    have hS2 : SV h1 1 S := hS1.fr F0 (by decide) (by decide) (by decide)
    refine Rq_aload_n dX4_save_12 rfl ?_
    refine Rq_get dX4_save_13 flX4_11 h4 rfl ?_
    refine Rq_aload_n dX4_save_16 rfl ?_
    refine Rq_get dX4_save_17 flX4_18 h4 rfl ?_
    refine Rq_aald 4 dX4_save_20 h5 (by decide) (by decide) rfl (hf 4 (by decide)) ?_
    refine Rq_astore_n [_, _, _] dX4_save_21 rfl rfl rfl ?_
    refine Rq_aload_n dX4_save_22 rfl ?_
    refine Rq_ifnull dX4_save_23 ?_
    refine Rq_aload_n dX4_save_26 rfl ?_
    refine Rq_aload_n dX4_save_27 rfl ?_
    refine Rq_callVq [_] dX4_save_28 clX4_25 rfl ((hs 4 (by decide)).1) (sp_copyFrom' d (hs 4 (by decide)) hS2 (by omega)) rfl rfl rfl (fun rv h2 hq => ?_)
    obtain ⟨rfl, F, hn⟩ := hq
    have h41 : h2[4]? = some (.inr (4, [.ref 5, .int (nI 4)])) := F.at (by simp; omega) h4
    refine Rq_aload_n dX4_save_31 rfl ?_
    refine Rq_dup dX4_save_32 rfl ?_
    refine Rq_get dX4_save_33 flX4_18 h41 rfl ?_
    refine Rq_iconst (1) dX4_save_36 (by decide) ?_
    refine Rq_iadd dX4_save_37 ?_
    refine Rq_put [_, _] dX4_save_38 fpX4_18 h41 rfl (okv_i _) rfl ?_
    rw [nI_1]
    refine Rq_vret dX4_save_41 rfl ?_
    obtain ⟨g1, g2⟩ := HI_put h4 h5 hf ho hi hs (by decide) F hn
    exact ⟨rfl, F0.trans g2, rot5 q, by simp only [svSave]; exact g1⟩
theorem sp_restore (d : Nat) {h : Hp} {q : Nat → Nat} {k : Nat} {sv : Nat → SC} {S : SC} (x : HI h q (k + 1) sv) (hk : k < 5) (hS1 : SV h 1 S) : Mq mX4_restoreInto (d + 2) [.ref 4, .ref 1] h (fun r h' => r = none ∧ Fr [1, 2, 3, 4] h h' ∧ HI h' q k sv ∧ SV h' 1 (sv k)) := by
  obtain ⟨h4, ⟨f, h5, hf⟩, ho, hi, hs⟩ := x
  have lk := (ho k hk).lo
  refine Mq_of [_, _, _] (by decide +kernel) rfl rfl ?_
  refine Rq_aload_n dX4_restoreInto_0 rfl ?_
  refine Rq_get dX4_restoreInto_1 flX4_18 h4 rfl ?_
  refine Rq_if_gt_t 8 dX4_restoreInto_4 (by decide) (nI_lt (a := 0) (by omega) (by omega)) ?_
  refine Rq_aload_n dX4_restoreInto_8 rfl ?_
  refine Rq_dup dX4_restoreInto_9 rfl ?_
  refine Rq_get dX4_restoreInto_10 flX4_18 h4 rfl ?_
  refine Rq_iconst (1) dX4_restoreInto_13 (by decide) ?_
  refine Rq_isub dX4_restoreInto_14 ?_
  refine Rq_put [_, _] dX4_restoreInto_15 fpX4_18 h4 rfl (okv_i _) rfl ?_
  rw [nI_pred]
  have h41 := hS (.inr (4, [.ref 5, .int (nI k)])) h4
  have h51 := hNs (e' := .inr (4, [.ref 5, .int (nI k)])) (by decide : (4 : Nat) ≠ 5) h5
  have hs1 : ∀ i, i < 5 → SV (h.set 4 (.inr (4, [.ref 5, .int (nI k)]))) (q i) (sv i) := fun i hh => by
    have := (ho i hh).lo
    exact (hs i hh).keep (hN (by omega)) (hN (by omega)) (hN (by omega))
  have hS2 : SV (h.set 4 (.inr (4, [.ref 5, .int (nI k)]))) 1 S := hS1.keep (hN (by decide)) (hN (by decide)) (hN (by decide))
  refine Rq_aload_n dX4_restoreInto_18 rfl ?_
  refine Rq_get dX4_restoreInto_19 flX4_11 h41 rfl ?_
  refine Rq_aload_n dX4_restoreInto_22 rfl ?_
  refine Rq_get dX4_restoreInto_23 flX4_18 h41 rfl ?_
  refine Rq_aald k dX4_restoreInto_26 h51 hk (by decide) rfl (hf k hk) ?_
  refine Rq_astore_n [_, _, _] dX4_restoreInto_27 rfl rfl rfl ?_
  refine Rq_aload_n dX4_restoreInto_28 rfl ?_
  refine Rq_ifnull dX4_restoreInto_29 ?_
  refine Rq_aload_n dX4_restoreInto_32 rfl ?_
  refine Rq_aload_n dX4_restoreInto_33 rfl ?_
  refine Rq_callVq [_] dX4_restoreInto_34 clX4_25 rfl hS2.1 (sp_copyFrom' d hS2 (hs1 k hk) (by omega)) rfl rfl rfl (fun rv h1 hq => ?_)
  obtain ⟨rfl, F, hn⟩ := hq
  refine Rq_vret dX4_restoreInto_37 rfl ?_
  refine ⟨rfl, Fr.trans (Fr.set (by decide)) (F.mono (by decide)), ⟨F.at (by decide) h41, ⟨f, F.at (by decide) h51, hf⟩, ho, hi, fun i hh => ?_⟩, hn⟩
  have := (ho i hh).lo
  exact (hs1 i hh).fr F (by simp; omega) (by simp; omega) (by simp; omega)
