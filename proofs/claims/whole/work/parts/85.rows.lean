/-! rows of the class and of the reference -/
def Sm (l l' : List Int32) : Prop := Srt l ∧ VR l' ∧ (∀ c ∈ l, ∃ r ∈ l', CR c r) ∧ ∀ r ∈ l', ∃ c ∈ l, CR c r
theorem Sm_r {l l' l'' : List Int32} (x : Sm l l') (y : Sm l l'') : l' = l'' := by
  refine srt_ext x.2.1.2.2 y.2.1.2.2 (fun r => ⟨fun hr => ?_, fun hr => ?_⟩)
  · obtain ⟨c, hc, e⟩ := x.2.2.2 r hr
    obtain ⟨r', hr', e'⟩ := y.2.2.1 c hc
    rw [CR_r e e']; exact hr'
  · obtain ⟨c, hc, e⟩ := y.2.2.2 r hr
    obtain ⟨r', hr', e'⟩ := x.2.2.1 c hc
    rw [CR_r e e']; exact hr'
theorem Sm_c {l m l' : List Int32} (x : Sm l l') (y : Sm m l') : l = m := by
  refine srt_ext x.1 y.1 (fun c => ⟨fun hc => ?_, fun hc => ?_⟩)
  · obtain ⟨r, hr, e⟩ := x.2.2.1 c hc
    obtain ⟨c', hc', e'⟩ := y.2.2.2 r hr
    rw [CR_c e e']; exact hc'
  · obtain ⟨r, hr, e⟩ := y.2.2.1 c hc
    obtain ⟨c', hc', e'⟩ := x.2.2.2 r hr
    rw [CR_c e e']; exact hc'
theorem srt_le {l : List Int32} (h : Srt l) {i j : Nat} (hij : i ≤ j) (hj : j < l.length) : l.getD i 0 ≤ l.getD j 0 := by
  rcases Nat.lt_or_ge i j with a | a
  · have := List.pairwise_iff_getElem.mp h i j (by omega) hj a
    rw [getD_of (by omega), getD_of hj]
    exact Int32.le_of_lt this
  · rw [show i = j by omega]
    exact Int32.le_refl _
theorem ins_eq {l : List Int32} (h : Srt l) (c : Int32) : ins l c = insR l c := by
  unfold ins insR
  by_cases m : c ∈ l
  · rw [if_pos m]
    obtain ⟨j, hj, e⟩ := List.mem_iff_getElem.mp m
    have e' : l.getD j 0 = c := by rw [getD_of hj]; exact e
    have hp := insP_le l c l.length
    have jl : j < insP l c l.length := by
      rcases Nat.lt_or_ge j (insP l c l.length) with q | q
      · exact q
      · have := insP_hi l c l.length (Nat.le_refl _) j q hj
        rw [e'] at this
        exact absurd this Int32.lt_irrefl
    have lo := insP_lo l c l.length (by omega)
    have le := srt_le h (i := j) (j := insP l c l.length - 1) (by omega) (by omega)
    rw [e'] at le
    rw [if_pos ⟨by omega, Int32.le_antisymm (Int32.not_lt.mp lo) le⟩]
  · rw [if_neg m, if_neg]
    rintro ⟨a, b⟩
    apply m
    have hp := insP_le l c l.length
    rw [← b]
    exact getD_mem (by omega)
theorem ins_srt' {l : List Int32} (h : Srt l) (c : Int32) : Srt (ins l c) := by rw [ins_eq h]; exact insR_srt h
theorem ins_mem {l : List Int32} (h : Srt l) {c m : Int32} : m ∈ ins l c ↔ m = c ∨ m ∈ l := by rw [ins_eq h]; exact insR_mem
theorem fold_ins {p : Int32 → Prop} [DecidablePred p] {g : Int32 → Int32} : ∀ (m a : List Int32), Srt a → Srt (m.foldl (fun a c => if p c then ins a (g c) else a) a) ∧ ∀ x, x ∈ m.foldl (fun a c => if p c then ins a (g c) else a) a ↔ x ∈ a ∨ ∃ c ∈ m, p c ∧ x = g c
  | [], a, h => ⟨h, fun x => by simp⟩
  | c :: m, a, h => by
    rw [List.foldl_cons]
    by_cases hp : p c
    · rw [if_pos hp]
      obtain ⟨s1, s2⟩ := fold_ins (p := p) (g := g) m (ins a (g c)) (ins_srt' h _)
      refine ⟨s1, fun x => ?_⟩
      rw [s2, ins_mem h]
      constructor
      · rintro ((e | e) | ⟨d, h1, h2⟩)
        · exact Or.inr ⟨c, List.mem_cons_self, hp, e⟩
        · exact Or.inl e
        · exact Or.inr ⟨d, List.mem_cons_of_mem _ h1, h2⟩
      · rintro (e | ⟨d, h1, h2, h3⟩)
        · exact Or.inl (Or.inr e)
        · rcases List.mem_cons.mp h1 with rfl | h1
          · exact Or.inl (Or.inl h3)
          · exact Or.inr ⟨d, h1, h2, h3⟩
    · rw [if_neg hp]
      obtain ⟨s1, s2⟩ := fold_ins (p := p) (g := g) m a h
      refine ⟨s1, fun x => ?_⟩
      rw [s2]
      constructor
      · rintro (e | ⟨d, h1, h2⟩)
        · exact Or.inl e
        · exact Or.inr ⟨d, List.mem_cons_of_mem _ h1, h2⟩
      · rintro (e | ⟨d, h1, h2, h3⟩)
        · exact Or.inl e
        · rcases List.mem_cons.mp h1 with rfl | h1
          · exact absurd h2 hp
          · exact Or.inr ⟨d, h1, h2, h3⟩
theorem resC_ok (t : Int32) (l : List Int32) : Srt (resC t l) ∧ ∀ x, x ∈ resC t l ↔ ∃ c ∈ l, c &&& t = 0 ∧ x = c &&& (fOpp t ^^^ (-1)) := by
  have q := fold_ins (p := fun c => c &&& t = 0) (g := fun c => c &&& (fOpp t ^^^ (-1))) l [] List.Pairwise.nil
  exact ⟨q.1, fun x => (q.2 x).trans (by simp)⟩
theorem tpC_ok (t : Int32) (l : List Int32) : Srt (tpC t l) ∧ ∀ x, x ∈ tpC t l ↔ x ∈ l ∧ ¬ fVars x &&& t = 0 := by
  have q := fold_ins (p := fun c => ¬ fVars c &&& t = 0) (g := fun c => c) l [] List.Pairwise.nil
  have e : tpC t l = l.foldl (fun a c => if ¬ fVars c &&& t = 0 then ins a c else a) [] := by
    unfold tpC
    congr 1
    funext a c
    by_cases h : fVars c &&& t = 0
    · rw [if_pos h, if_neg (fun z => z h)]
    · rw [if_neg h, if_pos h]
  rw [e]
  refine ⟨q.1, fun x => (q.2 x).trans ?_⟩
  constructor
  · rintro (h | ⟨c, h1, h2, rfl⟩)
    · cases h
    · exact ⟨h1, h2⟩
  · rintro ⟨h1, h2⟩
    exact Or.inr ⟨x, h1, h2, rfl⟩
theorem CR_and {c r c' r' : Int32} (h : CR c r) (h' : CR c' r') : CR (c &&& c') (r &&& r') := by
  refine ⟨fun i a b => ?_, fun v a => ⟨?_, ?_⟩, fun i a b => ?_⟩
  · rw [b_and, h.1 i a b]; rfl
  · rw [b_and, b_and, (h.2.1 v a).1, (h'.2.1 v a).1]
  · rw [b_and, b_and, (h.2.1 v a).2, (h'.2.1 v a).2]
  · rw [b_and, h.2.2 i a b]; rfl
theorem CR_andn {c r c' r' : Int32} (h : CR c r) (h' : CR c' r') : CR (c &&& (c' ^^^ (-1))) (r &&& (r' ^^^ (-1))) := by
  refine ⟨fun i a b => ?_, fun v a => ⟨?_, ?_⟩, fun i a b => ?_⟩
  · rw [b_and, h.1 i a b]; rfl
  · rw [b_and, b_and, not_bit _ (by omega), not_bit _ (by omega), (h.2.1 v a).1, (h'.2.1 v a).1]
  · rw [b_and, b_and, not_bit _ (by omega), not_bit _ (by omega), (h.2.1 v a).2, (h'.2.1 v a).2]
  · rw [b_and, h.2.2 i a b]; rfl
theorem Sm_res {l l' : List Int32} (h : Sm l l') {t lit : Int32} (h1 : CR t (rBit lit)) (h2 : CR (fOpp t) (rBit (-lit))) : Sm (resC t l) (resR lit l') := by
  obtain ⟨s1, s2⟩ := resC_ok t l
  refine ⟨s1, resR_VR h.2.1 lit, fun x hx => ?_, fun y hy => ?_⟩
  · obtain ⟨c, a, b, rfl⟩ := (s2 x).mp hx
    obtain ⟨r, hr, e⟩ := h.2.2.1 c a
    exact ⟨r &&& (rBit (-lit) ^^^ (-1)), resR_mem.mpr ⟨r, hr, (CR_z (CR_and e h1)).mp b, rfl⟩, CR_andn e h2⟩
  · obtain ⟨r, a, b, rfl⟩ := resR_mem.mp hy
    obtain ⟨c, hc, e⟩ := h.2.2.2 r a
    exact ⟨c &&& (fOpp t ^^^ (-1)), (s2 _).mpr ⟨c, hc, (CR_z (CR_and e h1)).mpr b, rfl⟩, CR_andn e h2⟩
theorem opp_p : ∀ v, v < 10 → fOpp (fBit (nI (v + 1))) = fBit (-nI (v + 1)) ∧ fOpp (fOpp (fBit (nI (v + 1)))) = fBit (nI (v + 1)) ∧ - -nI (v + 1) = nI (v + 1) := by decide +kernel
theorem lit_p : ∀ v, v < 10 → (¬ nI (v + 1) = 0 ∧ -10 ≤ nI (v + 1) ∧ nI (v + 1) ≤ 10) ∧ (¬ -nI (v + 1) = 0 ∧ -10 ≤ -nI (v + 1) ∧ -nI (v + 1) ≤ 10) := by decide
theorem Sm_pos {l l' : List Int32} (h : Sm l l') {v : Nat} (hv : v < 10) : Sm (resC (fBit (nI (v + 1))) l) (resR (nI (v + 1)) l') :=
  Sm_res h (CR_b (lit_p v hv).1) (by rw [(opp_p v hv).1]; exact CR_b (lit_p v hv).2)
theorem Sm_neg {l l' : List Int32} (h : Sm l l') {v : Nat} (hv : v < 10) : Sm (resC (fOpp (fBit (nI (v + 1)))) l) (resR (-nI (v + 1)) l') :=
  Sm_res h (by rw [(opp_p v hv).1]; exact CR_b (lit_p v hv).2) (by rw [(opp_p v hv).2.1, (opp_p v hv).2.2]; exact CR_b (lit_p v hv).1)
/-! the root -/
theorem fOpp_b (x : Int32) {i : Nat} (hi : i < 32) : bt (fOpp x) i = (decide (1 ≤ i) && bt x (i - 1) && decide (2 ≤ i - 1 ∧ i - 1 < 22 ∧ (i - 1) % 2 = 0) || (bt x (i + 1) && decide (2 ≤ i ∧ i < 22 ∧ i % 2 = 0))) := by
  unfold fOpp
  have q1 : bt ((x &&& 1398100) <<< ((1 : Int32) &&& 31)) i = (decide (1 ≤ i) && bt (x &&& 1398100) (i - 1)) := b_shl 1 (by decide) _ hi
  have q2 : bt (x >>> ((1 : Int32) &&& 31)) i = if 1 + i < 32 then bt x (1 + i) else bt x 31 := b_sshr 1 (by decide) x hi
  rw [b_or, b_and, q1, q2, b_and, fv_mask _ (by omega), fv_mask _ hi]
  have d1 : (decide (2 ≤ i - 1 ∧ i - 1 < 22) && decide ((i - 1) % 2 = 0)) = decide (2 ≤ i - 1 ∧ i - 1 < 22 ∧ (i - 1) % 2 = 0) := by
    rw [← Bool.decide_and]
    exact decide_eq_decide.mpr ⟨fun z => ⟨z.1.1, z.1.2, z.2⟩, fun z => ⟨⟨z.1, z.2.1⟩, z.2.2⟩⟩
  have d2 : (decide (2 ≤ i ∧ i < 22) && decide (i % 2 = 0)) = decide (2 ≤ i ∧ i < 22 ∧ i % 2 = 0) := by
    rw [← Bool.decide_and]
    exact decide_eq_decide.mpr ⟨fun z => ⟨z.1.1, z.1.2, z.2⟩, fun z => ⟨⟨z.1, z.2.1⟩, z.2.2⟩⟩
  rw [d1, d2]
  by_cases e : 1 + i < 32
  · rw [if_pos e, Nat.add_comm 1 i, Bool.and_assoc]
  · rw [decide_eq_false (p := 2 ≤ i ∧ i < 22 ∧ i % 2 = 0) (by omega), Bool.and_false, Bool.and_false, Bool.and_assoc]
section SRM
variable {n : Nat} {as : Int32} {cs w S : Nat → Int32}
theorem soR_b (S : Nat → Int32) {i : Nat} (hi : i < 32) : bt (soR S) i = (bt (S 17) i || (decide (10 ≤ i) && bt (S 18) (i - 10))) := by
  unfold soR
  have q : bt (S 18 <<< ((10 : Int32) &&& 31)) i = (decide (10 ≤ i) && bt (S 18) (i - 10)) := b_shl 10 (by decide) _ hi
  rw [b_or, q]
theorem noR_b (S : Nat → Int32) {i : Nat} (hi : i < 32) : bt (noR S) i = (bt (S 18) i || (decide (10 ≤ i) && bt (S 17) (i - 10))) := by
  unfold noR
  have q : bt (S 17 <<< ((10 : Int32) &&& 31)) i = (decide (10 ≤ i) && bt (S 17) (i - 10)) := b_shl 10 (by decide) _ hi
  rw [b_or, q]
theorem so_CR (h : AR as (S 17) (S 18)) : CR as (soR S) := by
  refine ⟨h.1, fun v hv => ⟨?_, ?_⟩, fun i hi a => ?_⟩
  · rw [soR_b S (by omega), (h.2.1 v hv).1, decide_eq_false (p := 10 ≤ v) (by omega)]; simp
  · rw [soR_b S (by omega), (h.2.1 v hv).2, (h.2.2.1 (v + 10) (by omega) (by omega)).1, decide_eq_true (p := 10 ≤ v + 10) (by omega), Nat.add_sub_cancel]; simp
  · rw [soR_b S hi, (h.2.2.1 i hi (by omega)).1, (h.2.2.1 (i - 10) (by omega) (by omega)).2]; simp
theorem no_CR (h : AR as (S 17) (S 18)) : CR (fOpp as) (noR S) := by
  refine ⟨fun i hi a => ?_, fun v hv => ⟨?_, ?_⟩, fun i hi a => ?_⟩
  · rw [fOpp_b as hi]
    by_cases e : 2 ≤ i - 1 ∧ i - 1 < 22 ∧ (i - 1) % 2 = 0
    · omega
    · rw [decide_eq_false e, decide_eq_false (p := 2 ≤ i ∧ i < 22 ∧ i % 2 = 0) (by omega)]; simp
  · rw [fOpp_b as (by omega), noR_b S (by omega), decide_eq_false (p := 2 ≤ 2 * v + 2 - 1 ∧ 2 * v + 2 - 1 < 22 ∧ (2 * v + 2 - 1) % 2 = 0) (by omega), decide_eq_true (p := 2 ≤ 2 * v + 2 ∧ 2 * v + 2 < 22 ∧ (2 * v + 2) % 2 = 0) (by omega), (h.2.1 v hv).2, decide_eq_false (p := 10 ≤ v) (by omega)]; simp
  · rw [fOpp_b as (by omega), noR_b S (by omega), show 2 * v + 3 - 1 = 2 * v + 2 by omega, decide_eq_true (p := 2 ≤ 2 * v + 2 ∧ 2 * v + 2 < 22 ∧ (2 * v + 2) % 2 = 0) (by omega), decide_eq_false (p := 2 ≤ 2 * v + 3 ∧ 2 * v + 3 < 22 ∧ (2 * v + 3) % 2 = 0) (by omega), (h.2.1 v hv).1, (h.2.2.1 (v + 10) (by omega) (by omega)).2, decide_eq_true (p := 10 ≤ v + 10) (by omega), decide_eq_true (p := 1 ≤ 2 * v + 3) (by omega), Nat.add_sub_cancel]; simp
  · rw [noR_b S hi, (h.2.2.1 i hi (by omega)).2, (h.2.2.1 (i - 10) (by omega) (by omega)).1]; simp
theorem rootC_ok (cs : Nat → Int32) (n : Nat) (as : Int32) : Srt (rootC cs n as) ∧ ∀ x, x ∈ rootC cs n as ↔ ∃ j, j < n ∧ cs j &&& as = 0 ∧ x = cs j &&& (fOpp as ^^^ (-1)) := by
  have q := fold_ins (p := fun c => c &&& as = 0) (g := fun c => c &&& (fOpp as ^^^ (-1))) ((List.range n).map cs) [] List.Pairwise.nil
  refine ⟨q.1, fun x => (q.2 x).trans ?_⟩
  constructor
  · rintro (h | ⟨c, h1, h2, h3⟩)
    · cases h
    · obtain ⟨j, hj, rfl⟩ := List.mem_map.mp h1
      exact ⟨j, List.mem_range.mp hj, h2, h3⟩
  · rintro ⟨j, h1, h2, h3⟩
    exact Or.inr ⟨cs j, List.mem_map.mpr ⟨j, List.mem_range.mpr h1, rfl⟩, h2, h3⟩
theorem Sm_root (h : SR n as cs w S) (hn : n ≤ 16) (hv : ∀ k, k < n → vW (S (1 + k))) : Sm (rootC cs n as) (rtK S n) := by
  obtain ⟨s1, s2⟩ := rootC_ok cs n as
  have c1 := so_CR h.2.2.1
  have c2 := no_CR h.2.2.1
  refine ⟨s1, rtK_VR hn hv, fun x hx => ?_, fun y hy => ?_⟩
  · obtain ⟨j, a, b, rfl⟩ := (s2 x).mp hx
    exact ⟨_, (rtK_mem n).mpr ⟨j, a, (CR_z (CR_and (h.2.1 j a) c1)).mp b, rfl⟩, CR_andn (h.2.1 j a) c2⟩
  · obtain ⟨j, a, b, rfl⟩ := (rtK_mem n).mp hy
    exact ⟨_, (s2 _).mpr ⟨j, a, (CR_z (CR_and (h.2.1 j a) c1)).mpr b, rfl⟩, CR_andn (h.2.1 j a) c2⟩
end SRM
