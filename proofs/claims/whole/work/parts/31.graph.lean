/-! CnfCompiler.Graph: cells 25 (itself), 26 (rows), 27 (heads) and four rows of nodes that may be made anew -/
abbrev obG (nr nz nd nn : Nat) (cnt rs rd dt at' ht hf : Int32) : va_E := .inr (3, [.ref 26, .ref 27, .ref nr, .ref nz, .ref nd, .ref nn, .int cnt, .int rs, .int rd, .int dt, .int at', .int ht, .int hf])
/-- the row of n clauses from b on -/
def rw (f : Nat → Int32) (b n : Nat) : List Int32 := (List.range n).map (fun j => f (b + j))
theorem rw_len (f : Nat → Int32) (b n : Nat) : (rw f b n).length = n := by simp [rw]
theorem rw_s (f : Nat → Int32) (b n : Nat) : rw f b (n + 1) = rw f b n ++ [f (b + n)] := by simp [rw, List.range_succ]
theorem rw_get {f : Nat → Int32} {b n j : Nat} (h : j < n) : (rw f b n)[j]? = some (f (b + j)) := by simp [rw, h]
theorem rw_getD {f : Nat → Int32} {b n j : Nat} (h : j < n) : (rw f b n).getD j 0 = f (b + j) := by
  rw [List.getD_eq_getElem?_getD, rw_get h]; rfl
theorem rw_cong {f g : Nat → Int32} {b n : Nat} (h : ∀ j, j < n → f (b + j) = g (b + j)) : rw f b n = rw g b n := by
  unfold rw
  exact List.map_congr_left (fun j hj => h j (List.mem_range.mp hj))
/-- where a clause comes into a row: behind the last that isn't greater -/
def insP (l : List Int32) (c : Int32) : Nat → Nat
  | 0 => 0
  | p + 1 => if c < l.getD p 0 then insP l c p else p + 1
def ins (l : List Int32) (c : Int32) : List Int32 := if insP l c l.length ≠ 0 ∧ l.getD (insP l c l.length - 1) 0 = c then l else l.take (insP l c l.length) ++ c :: l.drop (insP l c l.length)
theorem insP_le (l : List Int32) (c : Int32) : ∀ p, insP l c p ≤ p
  | 0 => Nat.le_refl _
  | p + 1 => by
    unfold insP
    split
    · exact Nat.le_succ_of_le (insP_le l c p)
    · exact Nat.le_refl _
/-- the row of cells behind a shift by one from p on -/
def shf (f : Nat → Int32) (b p n i : Nat) : Nat → Int32 := fun k => if b + i < k ∧ k ≤ b + n then f (k - 1) else f k
theorem shf_s (f : Nat → Int32) (b p n i : Nat) (hi : i < n) : upd (shf f b p n (i + 1)) (b + i + 1) (shf f b p n (i + 1) (b + i)) = shf f b p n i := by
  funext k
  simp only [upd, shf]
  by_cases h1 : k = b + i + 1
  · subst h1
    rw [if_pos rfl, if_neg (by omega), if_pos (by omega)]
    rfl
  · rw [if_neg h1]
    by_cases h2 : b + (i + 1) < k ∧ k ≤ b + n
    · rw [if_pos h2, if_pos (by omega)]
    · rw [if_neg h2, if_neg (by omega)]
theorem rw_ins (f : Nat → Int32) (b p n : Nat) (c : Int32) (hp : p ≤ n) : rw (upd (shf f b p n p) (b + p) c) b (n + 1) = (rw f b n).take p ++ c :: (rw f b n).drop p := by
  apply List.ext_getElem?
  intro j
  by_cases hj : j < n + 1
  · rw [rw_get hj]
    by_cases h1 : j < p
    · rw [List.getElem?_append_left (by rw [List.length_take, rw_len]; omega), List.getElem?_take, if_pos h1, rw_get (by omega)]
      simp only [upd, shf]
      rw [if_neg (by omega), if_neg (by omega)]
    · rw [List.getElem?_append_right (by rw [List.length_take, rw_len]; omega), List.length_take, rw_len, Nat.min_eq_left hp]
      by_cases h2 : j = p
      · subst h2
        rw [Nat.sub_self, List.getElem?_cons_zero, pk_us]
      · rw [show j - p = (j - p - 1) + 1 by omega, List.getElem?_cons_succ, List.getElem?_drop, show p + (j - p - 1) = j - 1 by omega, rw_get (by omega)]
        simp only [upd, shf]
        rw [if_neg (by omega), if_pos (by omega), show b + j - 1 = b + (j - 1) by omega]
  · rw [List.getElem?_eq_none (by rw [rw_len]; omega), List.getElem?_eq_none (by rw [List.length_append, List.length_cons, List.length_take, List.length_drop, rw_len]; omega)]
section GR
variable {nr nz nd nn : Nat} {cnt rs rd dt at' ht hf : Int32}
theorem ins_place (d : Nat) {h : Hp} {f : Nat → Int32} {L n : Nat} {c : Int32} {r : Option Value} {h' : Hp} (h1 : h[25]? = some (obG nr nz nd nn cnt rs rd dt at' ht hf)) (h2 : h[26]? = some (aI 176 f)) (hL : L < 11) (hn : n < 16)
    (K : Rx mX3_insert d 60 [.ref 25, .int (nI L), .int (nI n), .int c, .int (nI (16 * L)), .int (nI (16 * L + insP (rw f (16 * L) n) c n)), .retAddr 0] [] h r h') : ∀ p, p ≤ n → insP (rw f (16 * L) n) c n = insP (rw f (16 * L) n) c p → Rx mX3_insert d 34 [.ref 25, .int (nI L), .int (nI n), .int c, .int (nI (16 * L)), .int (nI (16 * L + p)), .retAddr 0] [] h r h' := by
  intro p
  induction p with
  | zero =>
    intro hp e
    simp only [insP] at e
    rw [e] at K
    refine Rx_iload dX3_insert_34 rfl ?_
    refine Rx_iload dX3_insert_36 rfl ?_
    refine Rx_icmp_le_t 60 dX3_insert_38 (by decide) (nI_le (by omega) (by omega)) ?_
    exact K
  | succ p ih =>
    intro hp e
    have e2 := e
    simp only [insP] at e2
    rw [rw_getD (by omega)] at e2
    refine Rx_iload dX3_insert_34 rfl ?_
    refine Rx_iload dX3_insert_36 rfl ?_
    refine Rx_icmp_le_f 60 dX3_insert_38 (by decide) (fun z => absurd z (Int32.not_le.mpr (nI_lt (by omega) (by omega)))) ?_
    refine Rx_aload_n dX3_insert_41 rfl ?_
    refine Rx_get dX3_insert_42 flX3_11 h1 rfl ?_
    refine Rx_iload dX3_insert_45 rfl ?_
    refine Rx_iconst (1) dX3_insert_47 (by decide) ?_
    refine Rx_isub dX3_insert_48 ?_
    rw [show 16 * L + (p + 1) = (16 * L + p) + 1 by omega, nI_pred]
    by_cases c1 : c < f (16 * L + p)
    · rw [if_pos c1] at e2
      refine Rx_iald (16 * L + p) dX3_insert_49 h2 (by omega) (by decide) rfl ?_
      refine Rx_iload_n dX3_insert_50 rfl ?_
      refine Rx_icmp_le_f 60 dX3_insert_51 (by decide) (Int32.not_le.mpr c1) ?_
      refine Rx_iinc [_, _, _, _, _, _, _] (-1) dX3_insert_54 rfl (by decide) rfl rfl rfl ?_
      rw [pk_m1]
      refine Rx_goto 34 dX3_insert_57 (by decide) ?_
      exact ih (by omega) e2
    · rw [if_neg c1] at e2
      rw [e2] at K
      refine Rx_iald (16 * L + p) dX3_insert_49 h2 (by omega) (by decide) rfl ?_
      refine Rx_iload_n dX3_insert_50 rfl ?_
      refine Rx_icmp_le_t 60 dX3_insert_51 (by decide) (Int32.not_lt.mp c1) ?_
      exact K
theorem ins_shift (d : Nat) {h : Hp} {f : Nat → Int32} {L n p : Nat} {c : Int32} (h1 : h[25]? = some (obG nr nz nd nn cnt rs rd dt at' ht hf)) (h2 : h[26]? = some (aI 176 f)) (hL : L < 11) (hn : n < 16) (hp : p ≤ n) : ∀ k i, i = p + k → i ≤ n → Rx mX3_insert d 88 [.ref 25, .int (nI L), .int (nI n), .int c, .int (nI (16 * L)), .int (nI (16 * L + p)), .int (nI (16 * L + i))] [] (h.set 26 (aI 176 (shf f (16 * L) p n i))) (some (.int (nI (n + 1)))) (h.set 26 (aI 176 (upd (shf f (16 * L) p n p) (16 * L + p) c))) := by
  intro k
  induction k with
  | zero =>
    intro i hi hin
    have e : i = p := by omega
    rw [e]
    have g1 := hNs (e' := aI 176 (shf f (16 * L) p n p)) (by decide : (26 : Nat) ≠ 25) h1
    have g2 := hS (aI 176 (shf f (16 * L) p n p)) h2
    refine Rx_iload dX3_insert_88 rfl ?_
    refine Rx_iload dX3_insert_90 rfl ?_
    refine Rx_icmp_le_t 117 dX3_insert_92 (by decide) (nI_le (by omega) (by omega)) ?_
    refine Rx_aload_n dX3_insert_117 rfl ?_
    refine Rx_get dX3_insert_118 flX3_11 g1 rfl ?_
    refine Rx_iload dX3_insert_121 rfl ?_
    refine Rx_iload_n dX3_insert_123 rfl ?_
    refine Rx_iast (16 * L + p) dX3_insert_124 g2 (by omega) (by decide) rfl ?_
    rw [List.set_set]
    refine Rx_iload_n dX3_insert_125 rfl ?_
    refine Rx_iconst (1) dX3_insert_126 (by decide) ?_
    refine Rx_iadd dX3_insert_127 ?_
    rw [nI_1]
    exact Rx_iret dX3_insert_128 rfl
  | succ k ih =>
    intro i hi hin
    obtain ⟨i', rfl⟩ : ∃ i', i = i' + 1 := ⟨i - 1, by omega⟩
    have g1 := hNs (e' := aI 176 (shf f (16 * L) p n (i' + 1))) (by decide : (26 : Nat) ≠ 25) h1
    have g2 := hS (aI 176 (shf f (16 * L) p n (i' + 1))) h2
    refine Rx_iload dX3_insert_88 rfl ?_
    refine Rx_iload dX3_insert_90 rfl ?_
    refine Rx_icmp_le_f 117 dX3_insert_92 (by decide) (fun z => absurd z (Int32.not_le.mpr (nI_lt (by omega) (by omega)))) ?_
    refine Rx_aload_n dX3_insert_95 rfl ?_
    refine Rx_get dX3_insert_96 flX3_11 g1 rfl ?_
    refine Rx_iload dX3_insert_99 rfl ?_
    refine Rx_aload_n dX3_insert_101 rfl ?_
    refine Rx_get dX3_insert_102 flX3_11 g1 rfl ?_
    refine Rx_iload dX3_insert_105 rfl ?_
    refine Rx_iconst (1) dX3_insert_107 (by decide) ?_
    refine Rx_isub dX3_insert_108 ?_
    rw [show 16 * L + (i' + 1) = (16 * L + i') + 1 by omega, nI_pred]
    refine Rx_iald (16 * L + i') dX3_insert_109 g2 (by omega) (by decide) rfl ?_
    refine Rx_iast (16 * L + i' + 1) dX3_insert_110 g2 (by omega) (by decide) rfl ?_
    rw [List.set_set, shf_s f (16 * L) p n i' (by omega)]
    refine Rx_iinc [_, _, _, _, _, _, _] (-1) dX3_insert_111 rfl (by decide) rfl rfl rfl ?_
    refine Rx_goto 88 dX3_insert_114 (by decide) ?_
    rw [pk_m1]
    exact ih i' (by omega) (by omega)
/-- an insert leaves the row with the clause in, and other rows as they are -/
def insPost (h : Hp) (f : Nat → Int32) (L n : Nat) (l : List Int32) (r : Option Value) (h' : Hp) : Prop := r = some (.int (nI l.length)) ∧ ∃ f', h' = h.set 26 (aI 176 f') ∧ rw f' (16 * L) l.length = l ∧ ∀ k, k < 16 * L ∨ 16 * L + 16 ≤ k → f' k = f k
theorem sp_insert (d : Nat) {h : Hp} {f : Nat → Int32} {L n : Nat} {c : Int32} (h1 : h[25]? = some (obG nr nz nd nn cnt rs rd dt at' ht hf)) (h2 : h[26]? = some (aI 176 f)) (hL : L < 11) (hn : n < 16) :
    Mq mX3_insert d [.ref 25, .int (nI L), .int (nI n), .int c] h (insPost h f L n (ins (rw f (16 * L) n) c)) := by
  have hP := insP_le (rw f (16 * L) n) c n
  generalize hp : insP (rw f (16 * L) n) c n = p at hP
  by_cases c0 : p ≠ 0 ∧ (rw f (16 * L) n).getD (p - 1) 0 = c
  · have e : ins (rw f (16 * L) n) c = rw f (16 * L) n := by unfold ins; rw [rw_len, hp, if_pos c0]
    rw [e]
    refine ⟨some (.int (nI n)), h, ⟨by rw [rw_len], f, (hset_id h2).symm, by rw [rw_len], fun _ _ => rfl⟩, ?_⟩
    obtain ⟨c1, c2⟩ := c0
    rw [rw_getD (by omega)] at c2
    refine Mx_of [_, _, _, _, _, _, _] (by decide +kernel) rfl rfl ?_
    refine Rx_iload_n dX3_insert_0 rfl ?_
    refine Rx_if_lt_f 20 dX3_insert_1 (by decide) (nI_pos (by omega)) ?_
    refine Rx_iload_n dX3_insert_4 rfl ?_
    refine Rx_bipush (11) dX3_insert_5 (by decide) ?_
    refine Rx_icmp_ge_f 20 dX3_insert_7 (by decide) (nI_ge (b := 11) (by omega) (by decide)) ?_
    refine Rx_iload_n dX3_insert_10 rfl ?_
    refine Rx_if_lt_f 20 dX3_insert_11 (by decide) (nI_pos (by omega)) ?_
    refine Rx_iload_n dX3_insert_14 rfl ?_
    refine Rx_bipush (16) dX3_insert_15 (by decide) ?_
    refine Rx_icmp_lt_t 22 dX3_insert_17 (by decide) (nI_lt (b := 16) hn (by decide)) ?_
    refine Rx_iload_n dX3_insert_22 rfl ?_
    refine Rx_bipush (16) dX3_insert_23 (by decide) ?_
    refine Rx_imul dX3_insert_25 ?_
    refine Rx_istore [_, _, _, _, _, _, _] dX3_insert_26 rfl rfl rfl ?_
    refine Rx_iload dX3_insert_28 rfl ?_
    refine Rx_iload_n dX3_insert_30 rfl ?_
    refine Rx_iadd dX3_insert_31 ?_
    refine Rx_istore [_, _, _, _, _, _, _] dX3_insert_32 rfl rfl rfl ?_
    rw [show (16 : Int32) = nI 16 from rfl, pk_mul, nI_add, Nat.mul_comm]
    refine ins_place d h1 h2 hL hn ?_ n (Nat.le_refl _) rfl
    rw [hp]
    refine Rx_iload dX3_insert_60 rfl ?_
    refine Rx_iload dX3_insert_62 rfl ?_
    refine Rx_icmp_le_f 82 dX3_insert_64 (by decide) (fun z => absurd z (Int32.not_le.mpr (nI_lt (by omega) (by omega)))) ?_
    refine Rx_aload_n dX3_insert_67 rfl ?_
    refine Rx_get dX3_insert_68 flX3_11 h1 rfl ?_
    refine Rx_iload dX3_insert_71 rfl ?_
    refine Rx_iconst (1) dX3_insert_73 (by decide) ?_
    refine Rx_isub dX3_insert_74 ?_
    rw [show nI (16 * L + p) - 1 = nI (16 * L + (p - 1)) from by rw [show 16 * L + p = (16 * L + (p - 1)) + 1 by omega]; exact nI_pred _]
    refine Rx_iald (16 * L + (p - 1)) dX3_insert_75 h2 (by omega) (by decide) rfl ?_
    refine Rx_iload_n dX3_insert_76 rfl ?_
    refine Rx_icmp_ne_f 82 dX3_insert_77 (by decide) c2 ?_
    refine Rx_iload_n dX3_insert_80 rfl ?_
    exact Rx_iret dX3_insert_81 rfl
  · have e : ins (rw f (16 * L) n) c = (rw f (16 * L) n).take p ++ c :: (rw f (16 * L) n).drop p := by unfold ins; rw [rw_len, hp, if_neg c0]
    have el : (ins (rw f (16 * L) n) c).length = n + 1 := by rw [e, ← rw_ins f (16 * L) p n c hP, rw_len]
    refine ⟨some (.int (nI (n + 1))), h.set 26 (aI 176 (upd (shf f (16 * L) p n p) (16 * L + p) c)), ⟨by rw [el], _, rfl, by rw [el, e]; exact rw_ins f (16 * L) p n c hP, fun k hk => ?_⟩, ?_⟩
    · simp only [upd, shf]
      rw [if_neg (by omega), if_neg (by omega)]
    · have K82 : Rx mX3_insert d 82 [.ref 25, .int (nI L), .int (nI n), .int c, .int (nI (16 * L)), .int (nI (16 * L + p)), .retAddr 0] [] h (some (.int (nI (n + 1)))) (h.set 26 (aI 176 (upd (shf f (16 * L) p n p) (16 * L + p) c))) := by
        refine Rx_iload dX3_insert_82 rfl ?_
        refine Rx_iload_n dX3_insert_84 rfl ?_
        refine Rx_iadd dX3_insert_85 ?_
        refine Rx_istore [_, _, _, _, _, _, _] dX3_insert_86 rfl rfl rfl ?_
        rw [nI_add]
        have := ins_shift d (c := c) h1 h2 hL hn hP (n - p) n (by omega) (Nat.le_refl _)
        rw [show shf f (16 * L) p n n = f from by funext k; simp only [shf]; rw [if_neg (by omega)], hset_id h2] at this
        exact this
      refine Mx_of [_, _, _, _, _, _, _] (by decide +kernel) rfl rfl ?_
      refine Rx_iload_n dX3_insert_0 rfl ?_
      refine Rx_if_lt_f 20 dX3_insert_1 (by decide) (nI_pos (by omega)) ?_
      refine Rx_iload_n dX3_insert_4 rfl ?_
      refine Rx_bipush (11) dX3_insert_5 (by decide) ?_
      refine Rx_icmp_ge_f 20 dX3_insert_7 (by decide) (nI_ge (b := 11) (by omega) (by decide)) ?_
      refine Rx_iload_n dX3_insert_10 rfl ?_
      refine Rx_if_lt_f 20 dX3_insert_11 (by decide) (nI_pos (by omega)) ?_
      refine Rx_iload_n dX3_insert_14 rfl ?_
      refine Rx_bipush (16) dX3_insert_15 (by decide) ?_
      refine Rx_icmp_lt_t 22 dX3_insert_17 (by decide) (nI_lt (b := 16) hn (by decide)) ?_
      refine Rx_iload_n dX3_insert_22 rfl ?_
      refine Rx_bipush (16) dX3_insert_23 (by decide) ?_
      refine Rx_imul dX3_insert_25 ?_
      refine Rx_istore [_, _, _, _, _, _, _] dX3_insert_26 rfl rfl rfl ?_
      refine Rx_iload dX3_insert_28 rfl ?_
      refine Rx_iload_n dX3_insert_30 rfl ?_
      refine Rx_iadd dX3_insert_31 ?_
      refine Rx_istore [_, _, _, _, _, _, _] dX3_insert_32 rfl rfl rfl ?_
      rw [show (16 : Int32) = nI 16 from rfl, pk_mul, nI_add, Nat.mul_comm]
      refine ins_place d h1 h2 hL hn ?_ n (Nat.le_refl _) rfl
      rw [hp]
      by_cases p0 : p = 0
      · refine Rx_iload dX3_insert_60 rfl ?_
        refine Rx_iload dX3_insert_62 rfl ?_
        refine Rx_icmp_le_t 82 dX3_insert_64 (by decide) (nI_le (by omega) (by omega)) ?_
        exact K82
      · have c2 : ¬ f (16 * L + (p - 1)) = c := fun z => c0 ⟨p0, by rw [rw_getD (by omega)]; exact z⟩
        refine Rx_iload dX3_insert_60 rfl ?_
        refine Rx_iload dX3_insert_62 rfl ?_
        refine Rx_icmp_le_f 82 dX3_insert_64 (by decide) (fun z => absurd z (Int32.not_le.mpr (nI_lt (by omega) (by omega)))) ?_
        refine Rx_aload_n dX3_insert_67 rfl ?_
        refine Rx_get dX3_insert_68 flX3_11 h1 rfl ?_
        refine Rx_iload dX3_insert_71 rfl ?_
        refine Rx_iconst (1) dX3_insert_73 (by decide) ?_
        refine Rx_isub dX3_insert_74 ?_
        rw [show nI (16 * L + p) - 1 = nI (16 * L + (p - 1)) from by rw [show 16 * L + p = (16 * L + (p - 1)) + 1 by omega]; exact nI_pred _]
        refine Rx_iald (16 * L + (p - 1)) dX3_insert_75 h2 (by omega) (by decide) rfl ?_
        refine Rx_iload_n dX3_insert_76 rfl ?_
        refine Rx_icmp_ne_t 82 dX3_insert_77 (by decide) c2 ?_
        exact K82
end GR
