/-! Graph: the table of nodes. A node is its row and its depth; T: the nodes in the order of their numbers -/
abbrev Nd : Type := List Int32 × Int32
def bkT (T : List Nd) (i : Nat) : Nat := bkt (T.getD i ([], 0)).1
/-- the last number below k whose bucket is b -/
def lastI (bk : Nat → Nat) (b : Nat) : Nat → Int32
  | 0 => -1
  | k + 1 => if bk k = b then nI k else lastI bk b k
theorem lastI_cong {bk bk' : Nat → Nat} {b : Nat} : ∀ {k : Nat}, (∀ i, i < k → bk i = bk' i) → lastI bk b k = lastI bk' b k
  | 0, _ => rfl
  | k + 1, h => by
    unfold lastI
    rw [h k (by omega), lastI_cong (fun i hi => h i (by omega))]
theorem lastI_ok (bk : Nat → Nat) (b : Nat) : ∀ k, k ≤ 1024 → (lastI bk b k = -1 ∧ ∀ i, i < k → bk i ≠ b) ∨ ∃ j, j < k ∧ lastI bk b k = nI j ∧ bk j = b ∧ ∀ i, j < i → i < k → bk i ≠ b
  | 0, _ => Or.inl ⟨rfl, fun i hi => absurd hi (Nat.not_lt_zero i)⟩
  | k + 1, hk => by
    unfold lastI
    by_cases c : bk k = b
    · rw [if_pos c]
      exact Or.inr ⟨k, by omega, rfl, c, fun i h1 h2 => by omega⟩
    · rw [if_neg c]
      rcases lastI_ok bk b k (by omega) with ⟨h1, h2⟩ | ⟨j, h1, h2, h3, h4⟩
      · exact Or.inl ⟨h1, fun i hi => by
          by_cases e : i = k
          · subst e; exact c
          · exact h2 i (by omega)⟩
      · exact Or.inr ⟨j, by omega, h2, h3, fun i g1 g2 => by
          by_cases e : i = k
          · subst e; exact c
          · exact h4 i g1 (by omega)⟩
/-- the number of a row among the first k nodes -/
def fnd (T : List Nd) (l : List Int32) : Nat → Int32
  | 0 => -1
  | k + 1 => if (T.getD k ([], 0)).1 = l then nI k else fnd T l k
theorem fnd_skip {T : List Nd} {l : List Int32} {j : Nat} : ∀ (k : Nat), j ≤ k → (∀ i, j ≤ i → i < k → (T.getD i ([], 0)).1 ≠ l) → fnd T l k = fnd T l j
  | 0, h, _ => by rw [show j = 0 by omega]
  | k + 1, h, hn => by
    by_cases e : j = k + 1
    · rw [e]
    · rw [show fnd T l (k + 1) = if (T.getD k ([], 0)).1 = l then nI k else fnd T l k from rfl, if_neg (hn k (by omega) (by omega)), fnd_skip k (by omega) (fun i h1 h2 => hn i h1 (by omega))]
/-- the cells of the nodes -/
def GT (h : Hp) (nr nz nd nn cap : Nat) (T : List Nd) : Prop := ∃ (NR NZ ND NN : Nat → Int32), h[nr]? = some (aI (16 * cap) NR) ∧ h[nz]? = some (aI cap NZ) ∧ h[nd]? = some (aI cap ND) ∧ h[nn]? = some (aI cap NN) ∧ T.length ≤ cap ∧
  ∀ i, i < T.length → (T.getD i ([], 0)).1.length ≤ 16 ∧ NZ i = nI (T.getD i ([], 0)).1.length ∧ rw NR (16 * i) (T.getD i ([], 0)).1.length = (T.getD i ([], 0)).1 ∧ ND i = (T.getD i ([], 0)).2 ∧ NN i = lastI (bkT T) (bkT T i) i
def capOK (cap : Nat) : Prop := cap = 64 ∨ cap = 128 ∨ cap = 256 ∨ cap = 512 ∨ cap = 1024
theorem capOK.le {cap : Nat} (h : capOK cap) : 64 ≤ cap ∧ cap ≤ 1024 := by rcases h with h | h | h | h | h <;> omega
section TB
variable {nr nz nd nn : Nat} {rs rd dt at' ht hf : Int32}
theorem hasRow_loop (d : Nat) {h : Hp} {f NR : Nat → Int32} {cnt : Int32} {cap i b n : Nat} (h1 : h[25]? = some (obG nr nz nd nn cnt rs rd dt at' ht hf)) (h2 : h[26]? = some (aI 176 f)) (h3 : h[nr]? = some (aI (16 * cap) NR)) (hc : cap ≤ 1024) (hi : i < cap) (hn : n ≤ 16) (hb : b + n ≤ 176) : ∀ (k j : Nat), j + k = n → (∀ z, z < j → NR (16 * i + z) = f (b + z)) →
    Rx mX3_hasRow d 15 [.ref 25, .int (nI i), .int (nI b), .int (nI n), .int (nI j)] [] h (some (.int (if rw NR (16 * i) n = rw f b n then 1 else 0))) h := by
  intro k
  induction k with
  | zero =>
    intro j hj hz
    have e : j = n := by omega
    subst e
    rw [if_pos (show rw NR (16 * i) j = rw f b j from List.map_congr_left (fun z hz' => hz z (List.mem_range.mp hz')))]
    refine Rx_iload dX3_hasRow_15 rfl ?_
    refine Rx_iload_n dX3_hasRow_17 rfl ?_
    refine Rx_icmp_ge_t 53 dX3_hasRow_18 (by decide) (nI_le (Nat.le_refl _) (by omega)) ?_
    refine Rx_iconst (1) dX3_hasRow_53 (by decide) ?_
    exact Rx_zret dX3_hasRow_54 rfl nz_1
  | succ k ih =>
    intro j hj hz
    refine Rx_iload dX3_hasRow_15 rfl ?_
    refine Rx_iload_n dX3_hasRow_17 rfl ?_
    refine Rx_icmp_ge_f 53 dX3_hasRow_18 (by decide) (nI_ge (by omega) (by omega)) ?_
    refine Rx_aload_n dX3_hasRow_21 rfl ?_
    refine Rx_get dX3_hasRow_22 flX3_18 h1 rfl ?_
    refine Rx_iload_n dX3_hasRow_25 rfl ?_
    refine Rx_bipush (16) dX3_hasRow_26 (by decide) ?_
    refine Rx_imul dX3_hasRow_28 ?_
    refine Rx_iload dX3_hasRow_29 rfl ?_
    refine Rx_iadd dX3_hasRow_31 ?_
    rw [show (16 : Int32) = nI 16 from rfl, pk_mul, Nat.mul_comm, nI_add]
    by_cases c : NR (16 * i + j) = f (b + j)
    · refine Rx_iald (16 * i + j) dX3_hasRow_32 h3 (by omega) (by omega) rfl ?_
      refine Rx_aload_n dX3_hasRow_33 rfl ?_
      refine Rx_get dX3_hasRow_34 flX3_11 h1 rfl ?_
      refine Rx_iload_n dX3_hasRow_37 rfl ?_
      refine Rx_iload dX3_hasRow_38 rfl ?_
      refine Rx_iadd dX3_hasRow_40 ?_
      rw [nI_add]
      refine Rx_iald (b + j) dX3_hasRow_41 h2 (by omega) (by decide) rfl ?_
      refine Rx_icmp_eq_t 47 dX3_hasRow_42 (by decide) c ?_
      refine Rx_iinc [_, _, _, _, _] (1) dX3_hasRow_47 rfl (by decide) rfl rfl rfl ?_
      refine Rx_goto 15 dX3_hasRow_50 (by decide) ?_
      rw [nI_1]
      refine ih (j + 1) (by omega) (fun z hz' => ?_)
      by_cases e : z = j
      · subst e; exact c
      · exact hz z (by omega)
    · have ne : ¬ rw NR (16 * i) n = rw f b n := fun z => by
        have := congrArg (fun l => l[j]?) z
        rw [rw_get (by omega), rw_get (by omega)] at this
        exact c (Option.some.inj this)
      rw [if_neg ne]
      refine Rx_iald (16 * i + j) dX3_hasRow_32 h3 (by omega) (by omega) rfl ?_
      refine Rx_aload_n dX3_hasRow_33 rfl ?_
      refine Rx_get dX3_hasRow_34 flX3_11 h1 rfl ?_
      refine Rx_iload_n dX3_hasRow_37 rfl ?_
      refine Rx_iload dX3_hasRow_38 rfl ?_
      refine Rx_iadd dX3_hasRow_40 ?_
      rw [nI_add]
      refine Rx_iald (b + j) dX3_hasRow_41 h2 (by omega) (by decide) rfl ?_
      refine Rx_icmp_eq_f 47 dX3_hasRow_42 (by decide) c ?_
      refine Rx_iconst (0) dX3_hasRow_45 (by decide) ?_
      exact Rx_zret dX3_hasRow_46 rfl nz_0
theorem sp_hasRow (d : Nat) {h : Hp} {f : Nat → Int32} {T : List Nd} {cap i b n : Nat} (h1 : h[25]? = some (obG nr nz nd nn (nI T.length) rs rd dt at' ht hf)) (h2 : h[26]? = some (aI 176 f)) (g : GT h nr nz nd nn cap T) (hc : cap ≤ 1024) (hi : i < T.length) (hn : n ≤ 16) (hb : b + n ≤ 176) :
    Mx mX3_hasRow d [.ref 25, .int (nI i), .int (nI b), .int (nI n)] h (some (.int (if (T.getD i ([], 0)).1 = rw f b n then 1 else 0))) h := by
  obtain ⟨NR, NZ, ND, NN, g1, g2, g3, g4, g5, g6⟩ := g
  obtain ⟨k1, k2, k3, k4, k5⟩ := g6 i hi
  refine Mx_of [_, _, _, _, _] (by decide +kernel) rfl rfl ?_
  by_cases c : (T.getD i ([], 0)).1.length = n
  · rw [← k3, c]
    refine Rx_aload_n dX3_hasRow_0 rfl ?_
    refine Rx_get dX3_hasRow_1 flX3_21 h1 rfl ?_
    refine Rx_iload_n dX3_hasRow_4 rfl ?_
    refine Rx_iald i dX3_hasRow_5 g2 (by omega) (by omega) rfl ?_
    refine Rx_iload_n dX3_hasRow_6 rfl ?_
    refine Rx_icmp_eq_t 12 dX3_hasRow_7 (by decide) (by rw [k2, c]) ?_
    refine Rx_iconst (0) dX3_hasRow_12 (by decide) ?_
    refine Rx_istore [_, _, _, _, _] dX3_hasRow_13 rfl rfl rfl ?_
    exact hasRow_loop d h1 h2 g1 hc (by omega) hn hb n 0 (by omega) (fun z hz => absurd hz (Nat.not_lt_zero z))
  · rw [if_neg (fun z => c (by rw [z, rw_len]))]
    refine Rx_aload_n dX3_hasRow_0 rfl ?_
    refine Rx_get dX3_hasRow_1 flX3_21 h1 rfl ?_
    refine Rx_iload_n dX3_hasRow_4 rfl ?_
    refine Rx_iald i dX3_hasRow_5 g2 (by omega) (by omega) rfl ?_
    refine Rx_iload_n dX3_hasRow_6 rfl ?_
    refine Rx_icmp_eq_f 12 dX3_hasRow_7 (by decide) (by rw [k2, nI_eq (by omega) (by omega)]; exact c) ?_
    refine Rx_iconst (0) dX3_hasRow_10 (by decide) ?_
    exact Rx_zret dX3_hasRow_11 rfl nz_0
theorem find_loop (d : Nat) {h : Hp} {f : Nat → Int32} {T : List Nd} {cap b n : Nat} (h1 : h[25]? = some (obG nr nz nd nn (nI T.length) rs rd dt at' ht hf)) (h2 : h[26]? = some (aI 176 f)) (g : GT h nr nz nd nn cap T) (hc : cap ≤ 1024) (hn : n ≤ 16) (hb : b + n ≤ 176) : ∀ (k s : Nat), s + k ≤ T.length →
    Rx mX3_findNode (d + 1) 11 [.ref 25, .int (nI (bkt (rw f b n))), .int (nI b), .int (nI n), .int (lastI (bkT T) (bkt (rw f b n)) k), .int (nI s)] [] h (some (.int (fnd T (rw f b n) k))) h := by
  intro k
  induction k using Nat.strongRecOn with
  | ind k ih =>
    intro s hs
    have hT : T.length ≤ 1024 := by obtain ⟨_, _, _, _, _, _, _, _, g5, _⟩ := g; omega
    rcases lastI_ok (bkT T) (bkt (rw f b n)) k (by omega) with ⟨e1, e2⟩ | ⟨j, e0, e1, e2, e3⟩
    · rw [e1, fnd_skip k (Nat.zero_le _) (fun i _ hi z => e2 i hi (by unfold bkT; rw [z]))]
      by_cases c : s < T.length
      · refine Rx_iload dX3_findNode_11 rfl ?_
        refine Rx_aload_n dX3_findNode_13 rfl ?_
        refine Rx_get dX3_findNode_14 flX3_36 h1 rfl ?_
        refine Rx_icmp_ge_f 63 dX3_findNode_17 (by decide) (nI_ge c (by omega)) ?_
        refine Rx_iload dX3_findNode_20 rfl ?_
        refine Rx_if_lt_t 63 dX3_findNode_22 (by decide) (by decide) ?_
        refine Rx_iconst (-1) dX3_findNode_63 (by decide) ?_
        exact Rx_iret dX3_findNode_64 rfl
      · refine Rx_iload dX3_findNode_11 rfl ?_
        refine Rx_aload_n dX3_findNode_13 rfl ?_
        refine Rx_get dX3_findNode_14 flX3_36 h1 rfl ?_
        refine Rx_icmp_ge_t 63 dX3_findNode_17 (by decide) (nI_le (by omega) (by omega)) ?_
        refine Rx_iconst (-1) dX3_findNode_63 (by decide) ?_
        exact Rx_iret dX3_findNode_64 rfl
    · rw [e1, fnd_skip (j := j + 1) k (by omega) (fun i h1 hi z => e3 i (by omega) hi (by unfold bkT; rw [z]))]
      unfold fnd
      have sp := sp_hasRow d h1 h2 g hc (i := j) (by omega) hn hb
      by_cases c : (T.getD j ([], 0)).1 = rw f b n
      · rw [if_pos c] at sp ⊢
        refine Rx_iload dX3_findNode_11 rfl ?_
        refine Rx_aload_n dX3_findNode_13 rfl ?_
        refine Rx_get dX3_findNode_14 flX3_36 h1 rfl ?_
        refine Rx_icmp_ge_f 63 dX3_findNode_17 (by decide) (nI_ge (by omega) (by omega)) ?_
        refine Rx_iload dX3_findNode_20 rfl ?_
        refine Rx_if_lt_f 63 dX3_findNode_22 (by decide) (nI_pos (by omega)) ?_
        refine Rx_iload dX3_findNode_25 rfl ?_
        refine Rx_aload_n dX3_findNode_27 rfl ?_
        refine Rx_get dX3_findNode_28 flX3_36 h1 rfl ?_
        refine Rx_icmp_ge_f 63 dX3_findNode_31 (by decide) (nI_ge (by omega) (by omega)) ?_
        refine Rx_aload_n dX3_findNode_34 rfl ?_
        refine Rx_iload dX3_findNode_35 rfl ?_
        refine Rx_iload_n dX3_findNode_37 rfl ?_
        refine Rx_iload_n dX3_findNode_38 rfl ?_
        refine Rx_callV [_, _, _] dX3_findNode_39 clX3_132 rfl h1 sp rfl rfl rfl ?_
        refine Rx_if_eq_f 48 dX3_findNode_42 (by decide) (by decide) ?_
        refine Rx_iload dX3_findNode_45 rfl ?_
        exact Rx_iret dX3_findNode_47 rfl
      · rw [if_neg c] at sp ⊢
        have nx := ih j e0 (s + 1) (by omega)
        obtain ⟨NR, NZ, ND, NN, g1, g2, g3, g4, g5, g6⟩ := g
        obtain ⟨k1, k2, k3, k4, k5⟩ := g6 j (by omega)
        refine Rx_iload dX3_findNode_11 rfl ?_
        refine Rx_aload_n dX3_findNode_13 rfl ?_
        refine Rx_get dX3_findNode_14 flX3_36 h1 rfl ?_
        refine Rx_icmp_ge_f 63 dX3_findNode_17 (by decide) (nI_ge (by omega) (by omega)) ?_
        refine Rx_iload dX3_findNode_20 rfl ?_
        refine Rx_if_lt_f 63 dX3_findNode_22 (by decide) (nI_pos (by omega)) ?_
        refine Rx_iload dX3_findNode_25 rfl ?_
        refine Rx_aload_n dX3_findNode_27 rfl ?_
        refine Rx_get dX3_findNode_28 flX3_36 h1 rfl ?_
        refine Rx_icmp_ge_f 63 dX3_findNode_31 (by decide) (nI_ge (by omega) (by omega)) ?_
        refine Rx_aload_n dX3_findNode_34 rfl ?_
        refine Rx_iload dX3_findNode_35 rfl ?_
        refine Rx_iload_n dX3_findNode_37 rfl ?_
        refine Rx_iload_n dX3_findNode_38 rfl ?_
        refine Rx_callV [_, _, _] dX3_findNode_39 clX3_132 rfl h1 sp rfl rfl rfl ?_
        refine Rx_if_eq_t 48 dX3_findNode_42 (by decide) rfl ?_
        refine Rx_aload_n dX3_findNode_48 rfl ?_
        refine Rx_get dX3_findNode_49 flX3_27 h1 rfl ?_
        refine Rx_iload dX3_findNode_52 rfl ?_
        refine Rx_iald j dX3_findNode_54 g4 (by omega) (by omega) rfl ?_
        rw [k5, e2]
        refine Rx_istore [_, _, _, _, _, _] dX3_findNode_55 rfl rfl rfl ?_
        refine Rx_iinc [_, _, _, _, _, _] (1) dX3_findNode_57 rfl (by decide) rfl rfl rfl ?_
        refine Rx_goto 11 dX3_findNode_60 (by decide) ?_
        rw [nI_1]
        exact nx
theorem sp_find (d : Nat) {h : Hp} {f heads : Nat → Int32} {T : List Nd} {cap b n : Nat} (h1 : h[25]? = some (obG nr nz nd nn (nI T.length) rs rd dt at' ht hf)) (h2 : h[26]? = some (aI 176 f)) (h3 : h[27]? = some (aI 64 heads)) (hh : ∀ b, b < 64 → heads b = lastI (bkT T) b T.length) (g : GT h nr nz nd nn cap T) (hc : cap ≤ 1024) (hn : n ≤ 16) (hb : b + n ≤ 176) :
    Mx mX3_findNode (d + 1) [.ref 25, .int (nI (bkt (rw f b n))), .int (nI b), .int (nI n)] h (some (.int (fnd T (rw f b n) T.length))) h := by
  have hk := bkt_lt (rw f b n)
  refine Mx_of [_, _, _, _, _, _] (by decide +kernel) rfl rfl ?_
  refine Rx_aload_n dX3_findNode_0 rfl ?_
  refine Rx_get dX3_findNode_1 flX3_15 h1 rfl ?_
  refine Rx_iload_n dX3_findNode_4 rfl ?_
  refine Rx_iald (bkt (rw f b n)) dX3_findNode_5 h3 hk (by decide) rfl ?_
  rw [hh _ hk]
  refine Rx_istore [_, _, _, _, _, _] dX3_findNode_6 rfl rfl rfl ?_
  refine Rx_iconst (0) dX3_findNode_8 (by decide) ?_
  refine Rx_istore [_, _, _, _, _, _] dX3_findNode_9 rfl rfl rfl ?_
  exact find_loop d h1 h2 g hc hn hb T.length 0 (by omega)
end TB
theorem sp_copyOf (d : Nat) {h : Hp} {a n m : Nat} {f : Nat → Int32} (ha : h[a]? = some (aI n f)) (hn : n < m) (hm : m ≤ 20000) : Mx mJ7_copyOf_59c91 (d + 1) [.ref a, .int (nI m)] h (some (.ref h.length)) (h ++ [aI m (va_cpy f (fun _ => 0) 0 0 n)]) := by
  have hl : a < h.length := (List.getElem?_eq_some_iff.mp ha).1
  have ha1 : (h ++ [aI m (fun _ => 0)])[a]? = some (aI n f) := by rw [List.getElem?_append_left hl]; exact ha
  have hb1 : (h ++ [aI m (fun _ => 0)])[h.length]? = some (aI m (fun _ => 0)) := by rw [List.getElem?_append_right (Nat.le_refl _), Nat.sub_self]; rfl
  have e1 : (if nI m < nI n then nI m else nI n) = nI n := if_neg (nI_nlt (by omega) (by omega))
  refine Mx_of [_, _, _] (by decide +kernel) rfl rfl ?_
  refine Rx_iload_n dJ7_copyOf_59c91_0 rfl ?_
  refine Rx_aload_n dJ7_copyOf_59c91_1 rfl ?_
  refine Rx_alenI dJ7_copyOf_59c91_2 ha ?_
  refine Rx_icmp_ne_t 14 dJ7_copyOf_59c91_3 (by decide) (by rw [nI_eq (by omega) (by omega)]; omega) ?_
  refine Rx_iload_n dJ7_copyOf_59c91_14 rfl ?_
  refine Rx_newI m dJ7_copyOf_59c91_15 ac_int rfl (by omega) ?_
  refine Rx_astore_n [_, _, _] dJ7_copyOf_59c91_17 rfl rfl rfl ?_
  refine Rx_aload_n dJ7_copyOf_59c91_18 rfl ?_
  refine Rx_iconst (0) dJ7_copyOf_59c91_19 (by decide) ?_
  refine Rx_aload_n dJ7_copyOf_59c91_20 rfl ?_
  refine Rx_iconst (0) dJ7_copyOf_59c91_21 (by decide) ?_
  refine Rx_aload_n dJ7_copyOf_59c91_22 rfl ?_
  refine Rx_alenI dJ7_copyOf_59c91_23 ha1 ?_
  refine Rx_iload_n dJ7_copyOf_59c91_24 rfl ?_
  refine Rx_mmin dJ7_copyOf_59c91_25 clJ7_304 mmin_1 mi_1 mmin_2 rfl ?_
  rw [e1]
  refine Rx_acopy 0 0 n dJ7_copyOf_59c91_28 clJ7_150 ac_1 ac_2 ac_3 ha1 hb1 (by omega) (by omega) rfl rfl rfl (by omega) (by omega) rfl ?_
  rw [show (h ++ [aI m (fun _ => 0)]).set h.length (aI m (va_cpy f (fun _ => 0) 0 0 n)) = h ++ [aI m (va_cpy f (fun _ => 0) 0 0 n)] from by rw [List.set_append_right _ _ (Nat.le_refl _), Nat.sub_self]; rfl]
  refine Rx_aload_n dJ7_copyOf_59c91_31 rfl ?_
  exact Rx_aret dJ7_copyOf_59c91_32 rfl (Or.inr ⟨_, rfl⟩)
