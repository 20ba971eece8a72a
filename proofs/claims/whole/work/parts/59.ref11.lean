/-! the reference's graph: the table and finds -/
def vW (c : Int32) : Prop := ∃ k, k < 1048576 ∧ c = nI k
def hK (l : List Int32) : Nat → Nat
  | 0 => l.length
  | k + 1 => (hK l k * 1048583 + (l.getD k 0).toBitVec.toNat) % 2147483647
def hs (l : List Int32) : Nat := hK l l.length % 16384
theorem hK_lt {l : List Int32} (hl : l.length ≤ 16) : ∀ k, hK l k < 2147483647
  | 0 => by unfold hK; omega
  | k + 1 => Nat.mod_lt _ (by decide)
def off (T : List (List Int32)) (i : Nat) : Nat := ((T.take i).map List.length).sum
/-- the nodes' rows and the table that finds them -/
def NT (B Z R H : Nat → Int32) (T : List (List Int32)) : Prop :=
  T.length ≤ 1024 ∧ (∀ i, i < T.length → Z (i + 2) = nI (T.getD i []).length ∧ (T.getD i []).length ≤ 16 ∧ B (i + 2) = nI (off T i) ∧ off T i ≤ 16 * i ∧ rw R (off T i) (T.getD i []).length = T.getD i []) ∧
  (∀ s, s < 16384 → H s = 0 ∨ ∃ i, i < T.length ∧ H s = nI (i + 2)) ∧
  (∀ i, i < T.length → ∃ j, H ((hs (T.getD i []) + j) % 16384) = nI (i + 2) ∧ ∀ j', j' < j → ¬ H ((hs (T.getD i []) + j') % 16384) = 0) ∧
  (∀ s s', s < 16384 → s' < 16384 → H s = H s' → ¬ H s = 0 → s = s')
theorem NT.zero {B Z R H : Nat → Int32} {T : List (List Int32)} (x : NT B Z R H T) (a : Nat) : ∃ j, j ≤ T.length ∧ H ((a + j) % 16384) = 0 := by
  obtain ⟨x1, -, x3, -, x5⟩ := x
  apply Classical.byContradiction
  intro hn
  have h1 : ∀ j, ∃ i, j ≤ T.length → i < T.length ∧ H ((a + j) % 16384) = nI (i + 2) := by
    intro j
    by_cases c : j ≤ T.length
    · rcases x3 _ (Nat.mod_lt (a + j) (by decide : 0 < 16384)) with z | ⟨i, z⟩
      · exact absurd ⟨j, c, z⟩ hn
      · exact ⟨i, fun _ => z⟩
    · exact ⟨0, fun z => absurd z c⟩
  have hf := fun j => Classical.choose_spec (h1 j)
  have := fb_holes T.length (T.length + 1) (fun j => Classical.choose (h1 j)) (fun j hj => (hf j (by omega)).1) (fun j j' h1 h2 e => by
    have e1 := (hf j (by omega)).2
    have e2 := (hf j' (by omega)).2
    rw [e] at e1
    have := x5 _ _ (Nat.mod_lt (a + j) (by decide : 0 < 16384)) (Nat.mod_lt (a + j') (by decide : 0 < 16384)) (e1.trans e2.symm) (by
      intro z
      exact hn ⟨j, by omega, z⟩)
    omega)
  omega
theorem lN_addN (a b : Nat) : lN a + lN b = lN (a + b) := (Int64.ofNat_add a b).symm
theorem lN_i32 (m : Nat) : (lN m).toInt32 = nI m := by
  apply Int32.toBitVec_inj.mp
  show BitVec.signExtend 32 (BitVec.ofNat 64 m) = BitVec.ofNat 32 m
  apply BitVec.eq_of_toNat_eq
  rw [BitVec.signExtend_eq_setWidth_of_le _ (by decide)]
  simp
theorem vW_n {c : Int32} (x : vW c) : c.toBitVec.toNat < 1048576 ∧ c = nI c.toBitVec.toNat := by
  obtain ⟨k, hk, rfl⟩ := x
  rw [pk_tn (by omega)]
  exact ⟨hk, rfl⟩
theorem getD_mem {l : List Int32} {k : Nat} (hk : k < l.length) : l.getD k 0 ∈ l := by
  rw [List.getD_eq_getElem?_getD, List.getElem?_eq_getElem hk]
  exact List.getElem_mem _
theorem hash_step {l : List Int32} (hl : l.length ≤ 16) (hv : ∀ c ∈ l, vW c) {k : Nat} (hk : k < l.length) : (lN (hK l k) * 1048583 + (l.getD k 0).toInt64) - (lN (hK l k) * 1048583 + (l.getD k 0).toInt64) / 2147483647 * 2147483647 = lN (hK l (k + 1)) := by
  obtain ⟨v1, v2⟩ := vW_n (hv _ (getD_mem hk))
  have h1 := hK_lt hl k
  have e : lN (hK l k) * 1048583 + (l.getD k 0).toInt64 = lN (hK l k * 1048583 + (l.getD k 0).toBitVec.toNat) := by
    rw [v2, nI_l (by omega)]
    rw [show (nI (l.getD k 0).toBitVec.toNat).toBitVec.toNat = (l.getD k 0).toBitVec.toNat from pk_tn (by omega)]
    rw [show (1048583 : Int64) = lN 1048583 from rfl, lN_mul, lN_addN]
  rw [e]
  exact pk_lRem (b := 2147483647) (by omega) (by decide) (by decide)
theorem getD_ext {l m : List Int32} (h1 : l.length = m.length) (h2 : ∀ k, k < l.length → l.getD k 0 = m.getD k 0) : l = m := by
  apply List.ext_getElem? 
  intro k
  by_cases c : k < l.length
  · have := h2 k c
    rw [List.getD_eq_getElem?_getD, List.getD_eq_getElem?_getD, List.getElem?_eq_getElem c, List.getElem?_eq_getElem (h1 ▸ c)] at this
    rw [List.getElem?_eq_getElem c, List.getElem?_eq_getElem (h1 ▸ c)]
    exact congrArg some this
  · rw [List.getElem?_eq_none (by omega), List.getElem?_eq_none (by omega)]
section RF
variable {h : Hp} {sm ln ic nm rm hf ht rt mm il sp rdm : Int32} {W Mn B Z R H : Nat → Int32}
/-- what finds says -/
def fdP (H : Nat → Int32) (T : List (List Int32)) (l : List Int32) (h : Hp) (r : Option Value) (h' : Hp) : Prop := h' = h ∧ ((∃ i, i < T.length ∧ T.getD i [] = l ∧ r = some (.int (nI (i + 2)))) ∨ (l ∉ T ∧ ∃ j, r = some (.int (-1 - nI ((hs l + j) % 16384))) ∧ H ((hs l + j) % 16384) = 0 ∧ ∀ j', j' < j → ¬ H ((hs l + j') % 16384) = 0))
theorem finds_in (d : Nat) {L i : Nat} {l : List Int32} {T : List (List Int32)} {a : Int32} {hv : Int64} {Q : Option Value → Hp → Prop} (hL : L < 26) (hi : i < T.length) (x : NT B Z R H T) (k0 : h[43]? = some (obM sm ln ic nm rm hf ht rt mm il sp rdm)) (k48 : h[48]? = some (aI 4096 B)) (k53 : h[53]? = some (aI 65536 R)) (k1 : h[55]? = some (aI 416 W)) (k2 : h[56]? = some (aI 26 Mn)) (lv : Lv W Mn L l) (hl : (T.getD i []).length = l.length)
    (K : ∀ b, (b = true ↔ T.getD i [] = l) → Rq mX9_finds d 164 [.ref 43, .int (nI L), .long hv, .retAddr 0, .int a, .int (nI (i + 2)), .int (b2i b), .retAddr 0] [] h Q) :
    ∀ (j k : Nat), k + j = l.length → (∀ q, q < k → (T.getD i []).getD q 0 = l.getD q 0) → Rq mX9_finds d 105 [.ref 43, .int (nI L), .long hv, .retAddr 0, .int a, .int (nI (i + 2)), .int (b2i true), .int (nI k)] [] h Q := by
  have ll := lv.2.1
  obtain ⟨x1, x2, -⟩ := x
  obtain ⟨y1, y2, y3, y4, y5⟩ := x2 i hi
  intro j
  induction j with
  | zero =>
    intro k hk hq
    have e : k = l.length := by omega
    subst e
    refine Rq_iload dX9_finds_105 rfl ?_
    refine Rq_aload_n dX9_finds_107 rfl ?_
    refine Rq_get dX9_finds_108 flX9_47 k0 rfl ?_
    refine Rq_iload_n dX9_finds_111 rfl ?_
    refine Rq_iald L dX9_finds_112 k2 hL (by decide) rfl ?_
    refine Rq_icmp_ge_t 164 dX9_finds_113 (by decide) (by rw [lv.1]; exact nI_le (Nat.le_refl _) (by omega)) ?_
    refine Rq_dead [_, _, _, _, _, _, _, .retAddr 0] ⟨Or.inr rfl, Or.inr rfl, Or.inr rfl, Or.inr rfl, Or.inr rfl, Or.inr rfl, Or.inr rfl, Or.inl rfl, trivial⟩ ?_
    exact K true ⟨fun _ => getD_ext hl (fun k hk => hq k (by omega)), fun _ => rfl⟩
  | succ j ih =>
    intro k hk hq
    have ew := lv.at (show k < l.length by omega)
    have er : R (off T i + k) = (T.getD i []).getD k 0 := by
      rw [← rw_getD (f := R) (b := off T i) (show k < (T.getD i []).length by omega), y5]
    refine Rq_iload dX9_finds_105 rfl ?_
    refine Rq_aload_n dX9_finds_107 rfl ?_
    refine Rq_get dX9_finds_108 flX9_47 k0 rfl ?_
    refine Rq_iload_n dX9_finds_111 rfl ?_
    refine Rq_iald L dX9_finds_112 k2 hL (by decide) rfl ?_
    refine Rq_icmp_ge_f 164 dX9_finds_113 (by decide) (by rw [lv.1]; exact nI_ge (by omega) (by omega)) ?_
    refine Rq_iload dX9_finds_116 rfl ?_
    refine Rq_if_eq_f 164 dX9_finds_118 (by decide) (by decide) ?_
    refine Rq_aload_n dX9_finds_121 rfl ?_
    refine Rq_get dX9_finds_122 flX9_38 k0 rfl ?_
    refine Rq_aload_n dX9_finds_125 rfl ?_
    refine Rq_get dX9_finds_126 flX9_22 k0 rfl ?_
    refine Rq_iload dX9_finds_129 rfl ?_
    refine Rq_iald (i + 2) dX9_finds_131 k48 (by omega) (by decide) rfl ?_
    refine Rq_iload dX9_finds_132 rfl ?_
    refine Rq_iadd dX9_finds_134 ?_
    rw [y3, nI_add]
    refine Rq_iald (off T i + k) dX9_finds_135 k53 (by omega) (by decide) rfl ?_
    refine Rq_aload_n dX9_finds_136 rfl ?_
    refine Rq_get dX9_finds_137 flX9_44 k0 rfl ?_
    refine Rq_bipush (16) dX9_finds_140 (by decide) ?_
    refine Rq_iload_n dX9_finds_142 rfl ?_
    refine Rq_imul dX9_finds_143 ?_
    refine Rq_iload dX9_finds_144 rfl ?_
    refine Rq_iadd dX9_finds_146 ?_
    rw [er]
    refine Rq_iald (16 * L + k) dX9_finds_147 k1 (by omega) (by decide) (ixm 16 L k) ?_
    rw [ew]
    by_cases c : (T.getD i []).getD k 0 = l.getD k 0
    · refine Rq_icmp_ne_f 155 dX9_finds_148 (by decide) c ?_
      refine Rq_iconst (1) dX9_finds_151 (by decide) ?_
      refine Rq_goto 156 dX9_finds_152 (by decide) ?_
      refine Rq_istore [_, _, _, _, _, _, _, _] dX9_finds_156 rfl rfl rfl ?_
      refine Rq_iinc [_, _, _, _, _, _, _, _] (1) dX9_finds_158 rfl (by decide) rfl rfl rfl ?_
      refine Rq_goto 105 dX9_finds_161 (by decide) ?_
      rw [nI_1]
      refine ih (k + 1) (by omega) (fun q hq1 => ?_)
      by_cases e : q = k
      · subst e; exact c
      · exact hq q (by omega)
    · have ne : ¬ T.getD i [] = l := fun z => c (by rw [z])
      have K0 := K false ⟨(fun z => by cases z), fun z => absurd z ne⟩
      by_cases c2 : k + 1 = l.length
      · refine Rq_icmp_ne_t 155 dX9_finds_148 (by decide) c ?_
        refine Rq_iconst (0) dX9_finds_155 (by decide) ?_
        refine Rq_istore [_, _, _, _, _, _, _, _] dX9_finds_156 rfl rfl rfl ?_
        refine Rq_iinc [_, _, _, _, _, _, _, _] (1) dX9_finds_158 rfl (by decide) rfl rfl rfl ?_
        refine Rq_goto 105 dX9_finds_161 (by decide) ?_
        refine Rq_iload dX9_finds_105 rfl ?_
        refine Rq_aload_n dX9_finds_107 rfl ?_
        refine Rq_get dX9_finds_108 flX9_47 k0 rfl ?_
        refine Rq_iload_n dX9_finds_111 rfl ?_
        refine Rq_iald L dX9_finds_112 k2 hL (by decide) rfl ?_
        refine Rq_icmp_ge_t 164 dX9_finds_113 (by decide) (by rw [lv.1, nI_1, c2]; exact nI_le (Nat.le_refl _) (by omega)) ?_
        refine Rq_dead [_, _, _, _, _, _, _, .retAddr 0] ⟨Or.inr rfl, Or.inr rfl, Or.inr rfl, Or.inr rfl, Or.inr rfl, Or.inr rfl, Or.inr rfl, Or.inl rfl, trivial⟩ ?_
        exact K0
      · refine Rq_icmp_ne_t 155 dX9_finds_148 (by decide) c ?_
        refine Rq_iconst (0) dX9_finds_155 (by decide) ?_
        refine Rq_istore [_, _, _, _, _, _, _, _] dX9_finds_156 rfl rfl rfl ?_
        refine Rq_iinc [_, _, _, _, _, _, _, _] (1) dX9_finds_158 rfl (by decide) rfl rfl rfl ?_
        refine Rq_goto 105 dX9_finds_161 (by decide) ?_
        refine Rq_iload dX9_finds_105 rfl ?_
        refine Rq_aload_n dX9_finds_107 rfl ?_
        refine Rq_get dX9_finds_108 flX9_47 k0 rfl ?_
        refine Rq_iload_n dX9_finds_111 rfl ?_
        refine Rq_iald L dX9_finds_112 k2 hL (by decide) rfl ?_
        refine Rq_icmp_ge_f 164 dX9_finds_113 (by decide) (by rw [lv.1, nI_1]; exact nI_ge (by omega) (by omega)) ?_
        refine Rq_iload dX9_finds_116 rfl ?_
        refine Rq_if_eq_t 164 dX9_finds_118 (by decide) rfl ?_
        refine Rq_dead [_, _, _, _, _, _, _, .retAddr 0] ⟨Or.inr rfl, Or.inr rfl, Or.inr rfl, Or.inr rfl, Or.inr rfl, Or.inr rfl, Or.inr rfl, Or.inl rfl, trivial⟩ ?_
        exact K0
theorem rp_finds (d : Nat) {L : Nat} {l : List Int32} {T : List (List Int32)} (hL : L < 26) (hvl : ∀ c ∈ l, vW c) (hl0 : 0 < l.length) (x : NT B Z R H T) (k0 : h[43]? = some (obM sm ln ic nm rm hf ht rt mm il sp rdm)) (k48 : h[48]? = some (aI 4096 B)) (k49 : h[49]? = some (aI 4096 Z)) (k53 : h[53]? = some (aI 65536 R)) (k54 : h[54]? = some (aI 16384 H)) (k1 : h[55]? = some (aI 416 W)) (k2 : h[56]? = some (aI 26 Mn)) (lv : Lv W Mn L l) :
    Mq mX9_finds d [.ref 43, .int (nI L)] h (fdP H T l h) := by
  have ll := lv.2.1
  obtain ⟨j0, hj0, hz⟩ := x.zero (hs l)
  have hT := x.1
  have probe : ∀ (m j : Nat) (hv : Int64), j + m = j0 → (∀ j', j' < j → ¬ H ((hs l + j') % 16384) = 0 ∧ ∀ i, i < T.length → H ((hs l + j') % 16384) = nI (i + 2) → ¬ T.getD i [] = l) → Rq mX9_finds d 60 [.ref 43, .int (nI L), .long hv, .retAddr 0, .int (nI ((hs l + j) % 16384)), .retAddr 0, .retAddr 0, .retAddr 0] [] h (fdP H T l h) := by
    intro m
    induction m with
    | zero =>
      intro j hv hj hq
      have e : j = j0 := by omega
      subst e
      have sl : (hs l + j) % 16384 < 16384 := Nat.mod_lt _ (by decide)
      refine Rq_aload_n dX9_finds_60 rfl ?_
      refine Rq_get dX9_finds_61 flX9_41 k0 rfl ?_
      refine Rq_iload dX9_finds_64 rfl ?_
      refine Rq_iald ((hs l + j) % 16384) dX9_finds_66 k54 sl (by decide) rfl ?_
      refine Rq_if_eq_t 185 dX9_finds_67 (by decide) hz ?_
      refine Rq_iconst (-1) dX9_finds_185 (by decide) ?_
      refine Rq_iload dX9_finds_186 rfl ?_
      refine Rq_isub dX9_finds_188 ?_
      refine Rq_iret dX9_finds_189 rfl ?_
      refine ⟨rfl, Or.inr ⟨fun hm => ?_, j, rfl, hz, fun j' hj' => (hq j' hj').1⟩⟩
      obtain ⟨i, hi, ei⟩ := List.getElem_of_mem hm
      have eg : T.getD i [] = l := by rw [List.getD_eq_getElem?_getD, List.getElem?_eq_getElem hi]; exact ei
      obtain ⟨ji, z1, z2⟩ := x.2.2.2.1 i hi
      rw [eg] at z1 z2
      rcases Nat.lt_trichotomy ji j with c | c | c
      · exact (hq ji c).2 i hi z1 eg
      · subst c
        rw [hz] at z1
        exact nI_ne0 (n := i + 2) (by omega) (by omega) z1.symm
      · exact z2 j c hz
    | succ m ih =>
      intro j hv hj hq
      have sl : (hs l + j) % 16384 < 16384 := Nat.mod_lt _ (by decide)
      have nxt : nI ((hs l + j) % 16384) + 1 - (nI ((hs l + j) % 16384) + 1) / 16384 * 16384 = nI ((hs l + (j + 1)) % 16384) := by
        rw [nI_1, show (16384 : Int32) = nI 16384 from rfl, pk_rem (by omega) (by decide) (by decide)]
        congr 1
        omega
      by_cases c : H ((hs l + j) % 16384) = 0
      · -- already empty: the same end
        refine Rq_aload_n dX9_finds_60 rfl ?_
        refine Rq_get dX9_finds_61 flX9_41 k0 rfl ?_
        refine Rq_iload dX9_finds_64 rfl ?_
        refine Rq_iald ((hs l + j) % 16384) dX9_finds_66 k54 sl (by decide) rfl ?_
        refine Rq_if_eq_t 185 dX9_finds_67 (by decide) c ?_
        refine Rq_iconst (-1) dX9_finds_185 (by decide) ?_
        refine Rq_iload dX9_finds_186 rfl ?_
        refine Rq_isub dX9_finds_188 ?_
        refine Rq_iret dX9_finds_189 rfl ?_
        refine ⟨rfl, Or.inr ⟨fun hm => ?_, j, rfl, c, fun j' hj' => (hq j' hj').1⟩⟩
        obtain ⟨i, hi, ei⟩ := List.getElem_of_mem hm
        have eg : T.getD i [] = l := by rw [List.getD_eq_getElem?_getD, List.getElem?_eq_getElem hi]; exact ei
        obtain ⟨ji, z1, z2⟩ := x.2.2.2.1 i hi
        rw [eg] at z1 z2
        rcases Nat.lt_trichotomy ji j with c' | c' | c'
        · exact (hq ji c').2 i hi z1 eg
        · subst c'
          rw [c] at z1
          exact nI_ne0 (n := i + 2) (by omega) (by omega) z1.symm
        · exact z2 j c' c
      · rcases x.2.2.1 _ sl with z | ⟨i, hi, e⟩
        · exact absurd z c
        · have y := x.2.1 i hi
          have K : ∀ b, (b = true ↔ T.getD i [] = l) → Rq mX9_finds d 164 [.ref 43, .int (nI L), .long hv, .retAddr 0, .int (nI ((hs l + j) % 16384)), .int (nI (i + 2)), .int (b2i b), .retAddr 0] [] h (fdP H T l h) := by
            intro b hb
            cases b with
            | true =>
              refine Rq_iload dX9_finds_164 rfl ?_
              refine Rq_if_eq_f 172 dX9_finds_166 (by decide) (by decide) ?_
              refine Rq_iload dX9_finds_169 rfl ?_
              refine Rq_iret dX9_finds_171 rfl ?_
              exact ⟨rfl, Or.inl ⟨i, hi, hb.mp rfl, rfl⟩⟩
            | false =>
              refine Rq_iload dX9_finds_164 rfl ?_
              refine Rq_if_eq_t 172 dX9_finds_166 (by decide) rfl ?_
              refine Rq_iload dX9_finds_172 rfl ?_
              refine Rq_iconst (1) dX9_finds_174 (by decide) ?_
              refine Rq_iadd dX9_finds_175 ?_
              refine Rq_sipush (16384) dX9_finds_176 (by decide) ?_
              refine Rq_irem dX9_finds_179 (by decide) ?_
              rw [nxt]
              refine Rq_istore [_, _, _, _, _, _, _, _] dX9_finds_180 rfl rfl rfl ?_
              refine Rq_goto 60 dX9_finds_182 (by decide) ?_
              refine Rq_dead [_, _, _, _, _, .retAddr 0, .retAddr 0, _] ⟨Or.inr rfl, Or.inr rfl, Or.inr rfl, Or.inr rfl, Or.inr rfl, Or.inl rfl, Or.inl rfl, Or.inr rfl, trivial⟩ ?_
              refine ih (j + 1) hv (by omega) (fun j' hj' => ?_)
              by_cases ej : j' = j
              · subst ej
                refine ⟨c, fun i' hi' e' => ?_⟩
                have : i' = i := by
                  rw [e] at e'
                  have := (nI_eq (by omega) (by omega)).mp e'
                  omega
                subst this
                exact fun z => by have := hb.mpr z; cases this
              · exact hq j' (by omega)
          refine Rq_aload_n dX9_finds_60 rfl ?_
          refine Rq_get dX9_finds_61 flX9_41 k0 rfl ?_
          refine Rq_iload dX9_finds_64 rfl ?_
          refine Rq_iald ((hs l + j) % 16384) dX9_finds_66 k54 sl (by decide) rfl ?_
          refine Rq_if_eq_f 185 dX9_finds_67 (by decide) c ?_
          refine Rq_aload_n dX9_finds_70 rfl ?_
          refine Rq_get dX9_finds_71 flX9_41 k0 rfl ?_
          refine Rq_iload dX9_finds_74 rfl ?_
          refine Rq_iald ((hs l + j) % 16384) dX9_finds_76 k54 sl (by decide) rfl ?_
          refine Rq_istore [_, _, _, _, _, _, _, _] dX9_finds_77 rfl rfl rfl ?_
          rw [e]
          by_cases c2 : (T.getD i []).length = l.length
          · refine Rq_aload_n dX9_finds_79 rfl ?_
            refine Rq_get dX9_finds_80 flX9_25 k0 rfl ?_
            refine Rq_iload dX9_finds_83 rfl ?_
            refine Rq_iald (i + 2) dX9_finds_85 k49 (by omega) (by decide) rfl ?_
            refine Rq_aload_n dX9_finds_86 rfl ?_
            refine Rq_get dX9_finds_87 flX9_47 k0 rfl ?_
            refine Rq_iload_n dX9_finds_90 rfl ?_
            refine Rq_iald L dX9_finds_91 k2 hL (by decide) rfl ?_
            refine Rq_icmp_ne_f 99 dX9_finds_92 (by decide) (by rw [y.1, lv.1, c2]) ?_
            refine Rq_iconst (1) dX9_finds_95 (by decide) ?_
            refine Rq_goto 100 dX9_finds_96 (by decide) ?_
            refine Rq_istore [_, _, _, _, _, _, _, _] dX9_finds_100 rfl rfl rfl ?_
            refine Rq_iconst (0) dX9_finds_102 (by decide) ?_
            refine Rq_istore [_, _, _, _, _, _, _, _] dX9_finds_103 rfl rfl rfl ?_
            exact finds_in d hL hi x k0 k48 k53 k1 k2 lv c2 K l.length 0 (by omega) (fun q hq => by omega)
          · refine Rq_aload_n dX9_finds_79 rfl ?_
            refine Rq_get dX9_finds_80 flX9_25 k0 rfl ?_
            refine Rq_iload dX9_finds_83 rfl ?_
            refine Rq_iald (i + 2) dX9_finds_85 k49 (by omega) (by decide) rfl ?_
            refine Rq_aload_n dX9_finds_86 rfl ?_
            refine Rq_get dX9_finds_87 flX9_47 k0 rfl ?_
            refine Rq_iload_n dX9_finds_90 rfl ?_
            refine Rq_iald L dX9_finds_91 k2 hL (by decide) rfl ?_
            refine Rq_icmp_ne_t 99 dX9_finds_92 (by decide) (by rw [y.1, lv.1]; exact fun z => c2 ((nI_eq (by have := y.2.1; omega) (by omega)).mp z)) ?_
            refine Rq_iconst (0) dX9_finds_99 (by decide) ?_
            refine Rq_istore [_, _, _, _, _, _, _, _] dX9_finds_100 rfl rfl rfl ?_
            refine Rq_iconst (0) dX9_finds_102 (by decide) ?_
            refine Rq_istore [_, _, _, _, _, _, _, _] dX9_finds_103 rfl rfl rfl ?_
            refine Rq_iload dX9_finds_105 rfl ?_
            refine Rq_aload_n dX9_finds_107 rfl ?_
            refine Rq_get dX9_finds_108 flX9_47 k0 rfl ?_
            refine Rq_iload_n dX9_finds_111 rfl ?_
            refine Rq_iald L dX9_finds_112 k2 hL (by decide) rfl ?_
            refine Rq_icmp_ge_f 164 dX9_finds_113 (by decide) (by rw [lv.1]; exact nI_ge (a := 0) (by omega) (by omega)) ?_
            refine Rq_iload dX9_finds_116 rfl ?_
            refine Rq_if_eq_t 164 dX9_finds_118 (by decide) rfl ?_
            refine Rq_dead [_, _, _, _, _, _, _, .retAddr 0] ⟨Or.inr rfl, Or.inr rfl, Or.inr rfl, Or.inr rfl, Or.inr rfl, Or.inr rfl, Or.inr rfl, Or.inl rfl, trivial⟩ ?_
            exact K false ⟨(fun z => by cases z), fun z => absurd (congrArg List.length z) c2⟩
  have loop : ∀ (j k : Nat), k + j = l.length → Rq mX9_finds d 11 [.ref 43, .int (nI L), .long (lN (hK l k)), .retAddr 0, .int (nI k), .retAddr 0, .retAddr 0, .retAddr 0] [] h (fdP H T l h) := by
    intro j
    induction j with
    | zero =>
      intro k hk
      have e : k = l.length := by omega
      subst e
      have hb := hK_lt ll l.length
      refine Rq_iload dX9_finds_11 rfl ?_
      refine Rq_aload_n dX9_finds_13 rfl ?_
      refine Rq_get dX9_finds_14 flX9_47 k0 rfl ?_
      refine Rq_iload_n dX9_finds_17 rfl ?_
      refine Rq_iald L dX9_finds_18 k2 hL (by decide) rfl ?_
      refine Rq_icmp_ge_t 52 dX9_finds_19 (by decide) (by rw [lv.1]; exact nI_le (Nat.le_refl _) (by omega)) ?_
      refine Rq_lload_n dX9_finds_52 rfl ?_
      refine Rq_ldc2 dX9_finds_53 kcX9_120 ?_
      refine Rq_lrem dX9_finds_56 (by decide) ?_
      rw [show (16384 : Int64) = lN 16384 from rfl, pk_lRem (by omega) (by decide) (by decide)]
      refine Rq_l2i dX9_finds_57 ?_
      rw [lN_i32]
      refine Rq_istore [_, _, _, _, _, _, _, _] dX9_finds_58 rfl rfl rfl ?_
      have e0 : nI (hK l l.length % 16384) = nI ((hs l + 0) % 16384) := by
        congr 1
        unfold hs
        omega
      rw [e0]
      exact probe j0 0 _ (by omega) (fun j' hj' => by omega)
    | succ j ih =>
      intro k hk
      have ew := lv.at (show k < l.length by omega)
      refine Rq_iload dX9_finds_11 rfl ?_
      refine Rq_aload_n dX9_finds_13 rfl ?_
      refine Rq_get dX9_finds_14 flX9_47 k0 rfl ?_
      refine Rq_iload_n dX9_finds_17 rfl ?_
      refine Rq_iald L dX9_finds_18 k2 hL (by decide) rfl ?_
      refine Rq_icmp_ge_f 52 dX9_finds_19 (by decide) (by rw [lv.1]; exact nI_ge (by omega) (by omega)) ?_
      refine Rq_lload_n dX9_finds_22 rfl ?_
      refine Rq_ldc2 dX9_finds_23 kcX9_116 ?_
      refine Rq_lmul dX9_finds_26 ?_
      refine Rq_aload_n dX9_finds_27 rfl ?_
      refine Rq_get dX9_finds_28 flX9_44 k0 rfl ?_
      refine Rq_bipush (16) dX9_finds_31 (by decide) ?_
      refine Rq_iload_n dX9_finds_33 rfl ?_
      refine Rq_imul dX9_finds_34 ?_
      refine Rq_iload dX9_finds_35 rfl ?_
      refine Rq_iadd dX9_finds_37 ?_
      refine Rq_iald (16 * L + k) dX9_finds_38 k1 (by omega) (by decide) (ixm 16 L k) ?_
      rw [ew]
      refine Rq_i2l dX9_finds_39 ?_
      refine Rq_ladd dX9_finds_40 ?_
      refine Rq_ldc2 dX9_finds_41 kcX9_118 ?_
      refine Rq_lrem dX9_finds_44 (by decide) ?_
      rw [hash_step ll hvl (by omega)]
      refine Rq_lstore_n [_, _, _, _, _, _, _, _] dX9_finds_45 rfl rfl rfl ?_
      refine Rq_iinc [_, _, _, _, _, _, _, _] (1) dX9_finds_46 rfl (by decide) rfl rfl rfl ?_
      refine Rq_goto 11 dX9_finds_49 (by decide) ?_
      rw [nI_1]
      exact ih (k + 1) (by omega)
  refine Mq_of [_, _, _, _, _, _, _, _] (by decide +kernel) rfl rfl ?_
  refine Rq_aload_n dX9_finds_0 rfl ?_
  refine Rq_get dX9_finds_1 flX9_47 k0 rfl ?_
  refine Rq_iload_n dX9_finds_4 rfl ?_
  refine Rq_iald L dX9_finds_5 k2 hL (by decide) rfl ?_
  rw [lv.1]
  refine Rq_i2l dX9_finds_6 ?_
  rw [nI_l (by omega)]
  refine Rq_lstore_n [_, _, _, _, _, _, _, _] dX9_finds_7 rfl rfl rfl ?_
  refine Rq_iconst (0) dX9_finds_8 (by decide) ?_
  refine Rq_istore [_, _, _, _, _, _, _, _] dX9_finds_9 rfl rfl rfl ?_
  exact loop l.length 0 (by omega)
end RF
