/-! Graph: the rows of a level -/
def addR (t : Int32) (l : List Int32) (c : Int32) : List Int32 := if c &&& t = 0 then ins l (c &&& (fOpp t ^^^ (-1))) else l
def resC (t : Int32) (l : List Int32) : List Int32 := l.foldl (addR t) []
def tpC (part : Int32) (l : List Int32) : List Int32 := l.foldl (fun a c => if fVars c &&& part = 0 then a else ins a c) []
theorem ins_len (l : List Int32) (c : Int32) : l.length ≤ (ins l c).length ∧ (ins l c).length ≤ l.length + 1 := by
  unfold ins
  split
  · omega
  · have := insP_le l c l.length
    rw [List.length_append, List.length_cons, List.length_take, List.length_drop]
    omega
theorem addR_len (t : Int32) (l : List Int32) (c : Int32) : (addR t l c).length ≤ l.length + 1 := by
  unfold addR
  split
  · exact (ins_len _ _).2
  · omega
section GR2
variable {nr nz nd nn : Nat} {cnt rs rd dt at' ht hf : Int32}
theorem sp_addR (d : Nat) {h : Hp} {f : Nat → Int32} {L n : Nat} {c t : Int32} (h1 : h[25]? = some (obG nr nz nd nn cnt rs rd dt at' ht hf)) (h2 : h[26]? = some (aI 176 f)) (hL : L < 11) (hn : n < 16) :
    Mq mX3_addResidual (d + 1) [.ref 25, .int (nI L), .int (nI n), .int c, .int t] h (insPost h f L n (addR t (rw f (16 * L) n) c)) := by
  refine Mq_of [_, _, _, _, _] (by decide +kernel) rfl rfl ?_
  unfold addR
  by_cases c0 : c &&& t = 0
  · rw [if_pos c0]
    refine Rq_iload_n dX3_addResidual_0 rfl ?_
    refine Rq_iload dX3_addResidual_1 rfl ?_
    refine Rq_iand dX3_addResidual_3 ?_
    refine Rq_if_eq_t 9 dX3_addResidual_4 (by decide) c0 ?_
    refine Rq_aload_n dX3_addResidual_9 rfl ?_
    refine Rq_iload_n dX3_addResidual_10 rfl ?_
    refine Rq_iload_n dX3_addResidual_11 rfl ?_
    refine Rq_iload_n dX3_addResidual_12 rfl ?_
    refine Rq_iload dX3_addResidual_13 rfl ?_
    refine Rq_callS [_] dX3_addResidual_15 clX3_115 (sp_oppOf d h t) rfl rfl rfl ?_
    refine Rq_iconst (-1) dX3_addResidual_18 (by decide) ?_
    refine Rq_ixor dX3_addResidual_19 ?_
    refine Rq_iand dX3_addResidual_20 ?_
    refine Rq_callVq [_, _, _] dX3_addResidual_21 clX3_129 rfl h1 (sp_insert d h1 h2 hL hn) rfl rfl rfl (fun rv h3 hq => ?_)
    obtain ⟨rfl, f', rfl, q1, q2⟩ := hq
    refine Rq_iret dX3_addResidual_24 rfl ?_
    exact ⟨rfl, f', rfl, q1, q2⟩
  · rw [if_neg c0]
    refine Rq_iload_n dX3_addResidual_0 rfl ?_
    refine Rq_iload dX3_addResidual_1 rfl ?_
    refine Rq_iand dX3_addResidual_3 ?_
    refine Rq_if_eq_f 9 dX3_addResidual_4 (by decide) c0 ?_
    refine Rq_iload_n dX3_addResidual_7 rfl ?_
    refine Rq_iret dX3_addResidual_8 rfl ?_
    exact ⟨by rw [rw_len], f, (hset_id h2).symm, by rw [rw_len], fun _ _ => rfl⟩
theorem setL_loop (d : Nat) {h : Hp} {f : Nat → Int32} {L n : Nat} {t : Int32} (h1 : h[25]? = some (obG nr nz nd nn cnt rs rd dt at' ht hf)) (h2 : h[26]? = some (aI 176 f)) (hL : L + 1 < 11) (hn : n ≤ 16) : ∀ (k i : Nat) (g : Nat → Int32) (a : List Int32), i + k = n → a = (rw f (16 * L) i).foldl (addR t) [] → a.length ≤ i → rw g (16 * (L + 1)) a.length = a → (∀ k, k < 16 * (L + 1) ∨ 16 * (L + 1) + 16 ≤ k → g k = f k) →
    Rq mX3_setLiteral (d + 2) 13 [.ref 25, .int (nI L), .int (nI n), .int t, .int (nI (16 * L)), .int (nI a.length), .int (nI (16 * L + i))] [] (h.set 26 (aI 176 g)) (insPost h f (L + 1) n (resC t (rw f (16 * L) n))) := by
  intro k
  induction k with
  | zero =>
    intro i g a hi ha hal hg ho
    have e : i = n := by omega
    subst e
    refine Rq_iload dX3_setLiteral_13 rfl ?_
    refine Rq_iload dX3_setLiteral_15 rfl ?_
    refine Rq_iload_n dX3_setLiteral_17 rfl ?_
    refine Rq_iadd dX3_setLiteral_18 ?_
    refine Rq_icmp_ge_t 47 dX3_setLiteral_19 (by decide) (by rw [nI_add]; exact nI_le (Nat.le_refl _) (by omega)) ?_
    refine Rq_iload dX3_setLiteral_47 rfl ?_
    refine Rq_iret dX3_setLiteral_49 rfl ?_
    exact ⟨by rw [ha]; rfl, g, rfl, by rw [show resC t (rw f (16 * L) i) = a from ha.symm]; exact hg, ho⟩
  | succ k ih =>
    intro i g a hi ha hal hg ho
    have g1 := hNs (e' := aI 176 g) (by decide : (26 : Nat) ≠ 25) h1
    have g2 := hS (aI 176 g) h2
    have sp := sp_addR d (c := g (16 * L + i)) (t := t) g1 g2 hL (show a.length < 16 by omega)
    rw [hg] at sp
    refine Rq_iload dX3_setLiteral_13 rfl ?_
    refine Rq_iload dX3_setLiteral_15 rfl ?_
    refine Rq_iload_n dX3_setLiteral_17 rfl ?_
    refine Rq_iadd dX3_setLiteral_18 ?_
    refine Rq_icmp_ge_f 47 dX3_setLiteral_19 (by decide) (by rw [nI_add]; exact nI_ge (by omega) (by omega)) ?_
    refine Rq_aload_n dX3_setLiteral_22 rfl ?_
    refine Rq_iload_n dX3_setLiteral_23 rfl ?_
    refine Rq_iconst (1) dX3_setLiteral_24 (by decide) ?_
    refine Rq_iadd dX3_setLiteral_25 ?_
    rw [nI_1]
    refine Rq_iload dX3_setLiteral_26 rfl ?_
    refine Rq_aload_n dX3_setLiteral_28 rfl ?_
    refine Rq_get dX3_setLiteral_29 flX3_11 g1 rfl ?_
    refine Rq_iload dX3_setLiteral_32 rfl ?_
    refine Rq_iald (16 * L + i) dX3_setLiteral_34 g2 (by omega) (by decide) rfl ?_
    refine Rq_iload_n dX3_setLiteral_35 rfl ?_
    refine Rq_callVq [_, _, _, _] dX3_setLiteral_36 clX3_68 rfl g1 sp rfl rfl rfl (fun rv h3 hq => ?_)
    obtain ⟨rfl, g', rfl, q1, q2⟩ := hq
    refine Rq_istore [_, _, _, _, _, _, _] dX3_setLiteral_39 rfl rfl rfl ?_
    refine Rq_iinc [_, _, _, _, _, _, _] (1) dX3_setLiteral_41 rfl (by decide) rfl rfl rfl ?_
    refine Rq_goto 13 dX3_setLiteral_44 (by decide) ?_
    rw [nI_1, List.set_set]
    have e1 : rw f (16 * L) (i + 1) = rw f (16 * L) i ++ [g (16 * L + i)] := by rw [rw_s, ho _ (by omega)]
    have e2 : addR t a (g (16 * L + i)) = (rw f (16 * L) (i + 1)).foldl (addR t) [] := by rw [e1, List.foldl_append, ← ha]; rfl
    have := addR_len t a (g (16 * L + i))
    exact ih (i + 1) g' _ (by omega) e2 (by omega) q1 (fun k hk => by rw [q2 k hk, ho k hk])
theorem sp_setLiteral (d : Nat) {h : Hp} {f : Nat → Int32} {L n : Nat} {t : Int32} (h1 : h[25]? = some (obG nr nz nd nn cnt rs rd dt at' ht hf)) (h2 : h[26]? = some (aI 176 f)) (hL : L + 1 < 11) (hn : n ≤ 16) :
    Mq mX3_setLiteral (d + 2) [.ref 25, .int (nI L), .int (nI n), .int t] h (insPost h f (L + 1) n (resC t (rw f (16 * L) n))) := by
  refine Mq_of [_, _, _, _, _, _, _] (by decide +kernel) rfl rfl ?_
  refine Rq_iload_n dX3_setLiteral_0 rfl ?_
  refine Rq_bipush (16) dX3_setLiteral_1 (by decide) ?_
  refine Rq_imul dX3_setLiteral_3 ?_
  refine Rq_istore [_, _, _, _, _, _, _] dX3_setLiteral_4 rfl rfl rfl ?_
  refine Rq_iconst (0) dX3_setLiteral_6 (by decide) ?_
  refine Rq_istore [_, _, _, _, _, _, _] dX3_setLiteral_7 rfl rfl rfl ?_
  refine Rq_iload dX3_setLiteral_9 rfl ?_
  refine Rq_istore [_, _, _, _, _, _, _] dX3_setLiteral_11 rfl rfl rfl ?_
  rw [show (16 : Int32) = nI 16 from rfl, pk_mul, Nat.mul_comm]
  have := setL_loop d (t := t) h1 h2 hL hn n 0 f [] (by omega) rfl (Nat.le_refl _) rfl (fun _ _ => rfl)
  rw [hset_id h2] at this
  exact this
theorem takeP_loop (d : Nat) {h : Hp} {f : Nat → Int32} {L n : Nat} {t : Int32} (h1 : h[25]? = some (obG nr nz nd nn cnt rs rd dt at' ht hf)) (h2 : h[26]? = some (aI 176 f)) (hL : L + 1 < 11) (hn : n ≤ 16) : ∀ (k i : Nat) (g : Nat → Int32) (a : List Int32), i + k = n → a = (rw f (16 * L) i).foldl (fun a c => if fVars c &&& t = 0 then a else ins a c) [] → a.length ≤ i → rw g (16 * (L + 1)) a.length = a → (∀ k, k < 16 * (L + 1) ∨ 16 * (L + 1) + 16 ≤ k → g k = f k) →
    Rq mX3_takePart (d + 1) 13 [.ref 25, .int (nI L), .int (nI n), .int t, .int (nI (16 * L)), .int (nI a.length), .int (nI (16 * L + i))] [] (h.set 26 (aI 176 g)) (insPost h f (L + 1) n (tpC t (rw f (16 * L) n))) := by
  intro k
  induction k with
  | zero =>
    intro i g a hi ha hal hg ho
    have e : i = n := by omega
    subst e
    refine Rq_iload dX3_takePart_13 rfl ?_
    refine Rq_iload dX3_takePart_15 rfl ?_
    refine Rq_iload_n dX3_takePart_17 rfl ?_
    refine Rq_iadd dX3_takePart_18 ?_
    refine Rq_icmp_ge_t 61 dX3_takePart_19 (by decide) (by rw [nI_add]; exact nI_le (Nat.le_refl _) (by omega)) ?_
    refine Rq_iload dX3_takePart_61 rfl ?_
    refine Rq_iret dX3_takePart_63 rfl ?_
    exact ⟨by rw [ha]; rfl, g, rfl, by rw [show tpC t (rw f (16 * L) i) = a from ha.symm]; exact hg, ho⟩
  | succ k ih =>
    intro i g a hi ha hal hg ho
    have g1 := hNs (e' := aI 176 g) (by decide : (26 : Nat) ≠ 25) h1
    have g2 := hS (aI 176 g) h2
    have e1 : rw f (16 * L) (i + 1) = rw f (16 * L) i ++ [g (16 * L + i)] := by rw [rw_s, ho _ (by omega)]
    by_cases c0 : fVars (g (16 * L + i)) &&& t = 0
    · refine Rq_iload dX3_takePart_13 rfl ?_
      refine Rq_iload dX3_takePart_15 rfl ?_
      refine Rq_iload_n dX3_takePart_17 rfl ?_
      refine Rq_iadd dX3_takePart_18 ?_
      refine Rq_icmp_ge_f 61 dX3_takePart_19 (by decide) (by rw [nI_add]; exact nI_ge (by omega) (by omega)) ?_
      refine Rq_aload_n dX3_takePart_22 rfl ?_
      refine Rq_get dX3_takePart_23 flX3_11 g1 rfl ?_
      refine Rq_iload dX3_takePart_26 rfl ?_
      refine Rq_iald (16 * L + i) dX3_takePart_28 g2 (by omega) (by decide) rfl ?_
      refine Rq_callS [_] dX3_takePart_29 clX3_86 (sp_varsOf d _ _) rfl rfl rfl ?_
      refine Rq_iload_n dX3_takePart_32 rfl ?_
      refine Rq_iand dX3_takePart_33 ?_
      refine Rq_if_eq_t 55 dX3_takePart_34 (by decide) c0 ?_
      refine Rq_iinc [_, _, _, _, _, _, _] (1) dX3_takePart_55 rfl (by decide) rfl rfl rfl ?_
      refine Rq_goto 13 dX3_takePart_58 (by decide) ?_
      rw [nI_1]
      exact ih (i + 1) g a (by omega) (by rw [e1, List.foldl_append, ← ha]; simp [c0]) (by omega) hg ho
    · have sp := sp_insert d (c := g (16 * L + i)) g1 g2 hL (show a.length < 16 by omega)
      rw [hg] at sp
      refine Rq_iload dX3_takePart_13 rfl ?_
      refine Rq_iload dX3_takePart_15 rfl ?_
      refine Rq_iload_n dX3_takePart_17 rfl ?_
      refine Rq_iadd dX3_takePart_18 ?_
      refine Rq_icmp_ge_f 61 dX3_takePart_19 (by decide) (by rw [nI_add]; exact nI_ge (by omega) (by omega)) ?_
      refine Rq_aload_n dX3_takePart_22 rfl ?_
      refine Rq_get dX3_takePart_23 flX3_11 g1 rfl ?_
      refine Rq_iload dX3_takePart_26 rfl ?_
      refine Rq_iald (16 * L + i) dX3_takePart_28 g2 (by omega) (by decide) rfl ?_
      refine Rq_callS [_] dX3_takePart_29 clX3_86 (sp_varsOf d _ _) rfl rfl rfl ?_
      refine Rq_iload_n dX3_takePart_32 rfl ?_
      refine Rq_iand dX3_takePart_33 ?_
      refine Rq_if_eq_f 55 dX3_takePart_34 (by decide) c0 ?_
      refine Rq_aload_n dX3_takePart_37 rfl ?_
      refine Rq_iload_n dX3_takePart_38 rfl ?_
      refine Rq_iconst (1) dX3_takePart_39 (by decide) ?_
      refine Rq_iadd dX3_takePart_40 ?_
      rw [nI_1]
      refine Rq_iload dX3_takePart_41 rfl ?_
      refine Rq_aload_n dX3_takePart_43 rfl ?_
      refine Rq_get dX3_takePart_44 flX3_11 g1 rfl ?_
      refine Rq_iload dX3_takePart_47 rfl ?_
      refine Rq_iald (16 * L + i) dX3_takePart_49 g2 (by omega) (by decide) rfl ?_
      refine Rq_callVq [_, _, _] dX3_takePart_50 clX3_129 rfl g1 sp rfl rfl rfl (fun rv h3 hq => ?_)
      obtain ⟨rfl, g', rfl, q1, q2⟩ := hq
      refine Rq_istore [_, _, _, _, _, _, _] dX3_takePart_53 rfl rfl rfl ?_
      refine Rq_iinc [_, _, _, _, _, _, _] (1) dX3_takePart_55 rfl (by decide) rfl rfl rfl ?_
      refine Rq_goto 13 dX3_takePart_58 (by decide) ?_
      rw [nI_1, List.set_set]
      have := ins_len a (g (16 * L + i))
      exact ih (i + 1) g' _ (by omega) (by rw [e1, List.foldl_append, ← ha]; simp [c0]) (by omega) q1 (fun k hk => by rw [q2 k hk, ho k hk])
theorem sp_takePart (d : Nat) {h : Hp} {f : Nat → Int32} {L n : Nat} {t : Int32} (h1 : h[25]? = some (obG nr nz nd nn cnt rs rd dt at' ht hf)) (h2 : h[26]? = some (aI 176 f)) (hL : L + 1 < 11) (hn : n ≤ 16) :
    Mq mX3_takePart (d + 1) [.ref 25, .int (nI L), .int (nI n), .int t] h (insPost h f (L + 1) n (tpC t (rw f (16 * L) n))) := by
  refine Mq_of [_, _, _, _, _, _, _] (by decide +kernel) rfl rfl ?_
  refine Rq_iload_n dX3_takePart_0 rfl ?_
  refine Rq_bipush (16) dX3_takePart_1 (by decide) ?_
  refine Rq_imul dX3_takePart_3 ?_
  refine Rq_istore [_, _, _, _, _, _, _] dX3_takePart_4 rfl rfl rfl ?_
  refine Rq_iconst (0) dX3_takePart_6 (by decide) ?_
  refine Rq_istore [_, _, _, _, _, _, _] dX3_takePart_7 rfl rfl rfl ?_
  refine Rq_iload dX3_takePart_9 rfl ?_
  refine Rq_istore [_, _, _, _, _, _, _] dX3_takePart_11 rfl rfl rfl ?_
  rw [show (16 : Int32) = nI 16 from rfl, pk_mul, Nat.mul_comm]
  have := takeP_loop d (t := t) h1 h2 hL hn n 0 f [] (by omega) rfl (Nat.le_refl _) rfl (fun _ _ => rfl)
  rw [hset_id h2] at this
  exact this
def orL (l : List Int32) : Int32 := l.foldl (fun a c => a ||| c) 0
theorem varsIn_loop (d : Nat) {h : Hp} {f : Nat → Int32} {b n : Nat} (h1 : h[25]? = some (obG nr nz nd nn cnt rs rd dt at' ht hf)) (h2 : h[26]? = some (aI 176 f)) (hb : b + n ≤ 176) : ∀ (k i : Nat), i + k = n →
    Rx mX3_variablesIn (d + 1) 5 [.ref 25, .int (nI b), .int (nI n), .int (orL (rw f b i)), .int (nI (b + i))] [] h (some (.int (fVars (orL (rw f b n))))) h := by
  intro k
  induction k with
  | zero =>
    intro i hi
    have e : i = n := by omega
    subst e
    refine Rx_iload dX3_variablesIn_5 rfl ?_
    refine Rx_iload_n dX3_variablesIn_7 rfl ?_
    refine Rx_iload_n dX3_variablesIn_8 rfl ?_
    refine Rx_iadd dX3_variablesIn_9 ?_
    refine Rx_icmp_ge_t 29 dX3_variablesIn_10 (by decide) (by rw [nI_add]; exact nI_le (Nat.le_refl _) (by omega)) ?_
    refine Rx_iload_n dX3_variablesIn_29 rfl ?_
    refine Rx_callS [_] dX3_variablesIn_30 clX3_86 (sp_varsOf d h _) rfl rfl rfl ?_
    exact Rx_iret dX3_variablesIn_33 rfl
  | succ k ih =>
    intro i hi
    refine Rx_iload dX3_variablesIn_5 rfl ?_
    refine Rx_iload_n dX3_variablesIn_7 rfl ?_
    refine Rx_iload_n dX3_variablesIn_8 rfl ?_
    refine Rx_iadd dX3_variablesIn_9 ?_
    refine Rx_icmp_ge_f 29 dX3_variablesIn_10 (by decide) (by rw [nI_add]; exact nI_ge (by omega) (by omega)) ?_
    refine Rx_iload_n dX3_variablesIn_13 rfl ?_
    refine Rx_aload_n dX3_variablesIn_14 rfl ?_
    refine Rx_get dX3_variablesIn_15 flX3_11 h1 rfl ?_
    refine Rx_iload dX3_variablesIn_18 rfl ?_
    refine Rx_iald (b + i) dX3_variablesIn_20 h2 (by omega) (by decide) rfl ?_
    refine Rx_ior dX3_variablesIn_21 ?_
    refine Rx_istore_n [_, _, _, _, _] dX3_variablesIn_22 rfl rfl rfl ?_
    refine Rx_iinc [_, _, _, _, _] (1) dX3_variablesIn_23 rfl (by decide) rfl rfl rfl ?_
    refine Rx_goto 5 dX3_variablesIn_26 (by decide) ?_
    rw [nI_1]
    have := ih (i + 1) (by omega)
    rw [rw_s, orL, List.foldl_append] at this
    exact this
theorem sp_varsIn (d : Nat) {h : Hp} {f : Nat → Int32} {b n : Nat} (h1 : h[25]? = some (obG nr nz nd nn cnt rs rd dt at' ht hf)) (h2 : h[26]? = some (aI 176 f)) (hb : b + n ≤ 176) : Mx mX3_variablesIn (d + 1) [.ref 25, .int (nI b), .int (nI n)] h (some (.int (fVars (orL (rw f b n))))) h := by
  refine Mx_of [_, _, _, _, _] (by decide +kernel) rfl rfl ?_
  refine Rx_iconst (0) dX3_variablesIn_0 (by decide) ?_
  refine Rx_istore_n [_, _, _, _, _] dX3_variablesIn_1 rfl rfl rfl ?_
  refine Rx_iload_n dX3_variablesIn_2 rfl ?_
  refine Rx_istore [_, _, _, _, _] dX3_variablesIn_3 rfl rfl rfl ?_
  exact varsIn_loop d h1 h2 hb n 0 (by omega)
/-- one round of growing a set of variables by the clauses that meet it -/
def cpass (vars : Int32 → Int32) (l : List Int32) (m : Int32) : Int32 := l.foldl (fun m c => if vars c &&& m = 0 then m else m ||| vars c) m
def cvr (vars : Int32 → Int32) (l : List Int32) : Nat → Int32 → Int32
  | 0, m => m
  | k + 1, m => if cpass vars l m = m then m else cvr vars l k (cpass vars l m)
theorem conn_in (d : Nat) {h : Hp} {f : Nat → Int32} {b n : Nat} {c m0 m1 j : Int32} {r : Option Value} {h' : Hp} (h1 : h[25]? = some (obG nr nz nd nn cnt rs rd dt at' ht hf)) (h2 : h[26]? = some (aI 176 f)) (hb : b + n ≤ 176)
    (K : Rx mX3_variablesConnectedTo (d + 1) 64 [.ref 25, .int c, .int (nI b), .int (nI n), .int (cpass fVars (rw f b n) m0), .int j, .int m1, .retAddr 0, .retAddr 0] [] h r h') : ∀ (k i : Nat), i + k = n → Rx mX3_variablesConnectedTo (d + 1) 23 [.ref 25, .int c, .int (nI b), .int (nI n), .int (cpass fVars (rw f b i) m0), .int j, .int m1, .int (nI (b + i)), .retAddr 0] [] h r h' := by
  intro k
  induction k with
  | zero =>
    intro i hi
    have e : i = n := by omega
    subst e
    refine Rx_iload dX3_variablesConnectedTo_23 rfl ?_
    refine Rx_iload_n dX3_variablesConnectedTo_25 rfl ?_
    refine Rx_iload_n dX3_variablesConnectedTo_26 rfl ?_
    refine Rx_iadd dX3_variablesConnectedTo_27 ?_
    refine Rx_icmp_ge_t 64 dX3_variablesConnectedTo_28 (by decide) (by rw [nI_add]; exact nI_le (Nat.le_refl _) (by omega)) ?_
    refine Rx_dead [_, _, _, _, _, _, _, .retAddr 0, .retAddr 0] ⟨Or.inr rfl, Or.inr rfl, Or.inr rfl, Or.inr rfl, Or.inr rfl, Or.inr rfl, Or.inr rfl, Or.inl rfl, Or.inl rfl, trivial⟩ ?_
    exact K
  | succ k ih =>
    intro i hi
    have nx := ih (i + 1) (by omega)
    rw [rw_s, cpass, List.foldl_append] at nx
    simp only [List.foldl_cons, List.foldl_nil] at nx
    by_cases c0 : fVars (f (b + i)) &&& cpass fVars (rw f b i) m0 = 0
    · rw [if_pos (by exact c0)] at nx
      refine Rx_iload dX3_variablesConnectedTo_23 rfl ?_
      refine Rx_iload_n dX3_variablesConnectedTo_25 rfl ?_
      refine Rx_iload_n dX3_variablesConnectedTo_26 rfl ?_
      refine Rx_iadd dX3_variablesConnectedTo_27 ?_
      refine Rx_icmp_ge_f 64 dX3_variablesConnectedTo_28 (by decide) (by rw [nI_add]; exact nI_ge (by omega) (by omega)) ?_
      refine Rx_aload_n dX3_variablesConnectedTo_31 rfl ?_
      refine Rx_get dX3_variablesConnectedTo_32 flX3_11 h1 rfl ?_
      refine Rx_iload dX3_variablesConnectedTo_35 rfl ?_
      refine Rx_iald (b + i) dX3_variablesConnectedTo_37 h2 (by omega) (by decide) rfl ?_
      refine Rx_callS [_] dX3_variablesConnectedTo_38 clX3_86 (sp_varsOf d h _) rfl rfl rfl ?_
      refine Rx_istore [_, _, _, _, _, _, _, _, _] dX3_variablesConnectedTo_41 rfl rfl rfl ?_
      refine Rx_iload dX3_variablesConnectedTo_43 rfl ?_
      refine Rx_iload dX3_variablesConnectedTo_45 rfl ?_
      refine Rx_iand dX3_variablesConnectedTo_47 ?_
      refine Rx_if_eq_t 58 dX3_variablesConnectedTo_48 (by decide) c0 ?_
      refine Rx_iinc [_, _, _, _, _, _, _, _, _] (1) dX3_variablesConnectedTo_58 rfl (by decide) rfl rfl rfl ?_
      refine Rx_goto 23 dX3_variablesConnectedTo_61 (by decide) ?_
      rw [nI_1]
      refine Rx_dead [_, _, _, _, _, _, _, _, .retAddr 0] ⟨Or.inr rfl, Or.inr rfl, Or.inr rfl, Or.inr rfl, Or.inr rfl, Or.inr rfl, Or.inr rfl, Or.inr rfl, Or.inl rfl, trivial⟩ ?_
      exact nx
    · rw [if_neg (by exact c0)] at nx
      refine Rx_iload dX3_variablesConnectedTo_23 rfl ?_
      refine Rx_iload_n dX3_variablesConnectedTo_25 rfl ?_
      refine Rx_iload_n dX3_variablesConnectedTo_26 rfl ?_
      refine Rx_iadd dX3_variablesConnectedTo_27 ?_
      refine Rx_icmp_ge_f 64 dX3_variablesConnectedTo_28 (by decide) (by rw [nI_add]; exact nI_ge (by omega) (by omega)) ?_
      refine Rx_aload_n dX3_variablesConnectedTo_31 rfl ?_
      refine Rx_get dX3_variablesConnectedTo_32 flX3_11 h1 rfl ?_
      refine Rx_iload dX3_variablesConnectedTo_35 rfl ?_
      refine Rx_iald (b + i) dX3_variablesConnectedTo_37 h2 (by omega) (by decide) rfl ?_
      refine Rx_callS [_] dX3_variablesConnectedTo_38 clX3_86 (sp_varsOf d h _) rfl rfl rfl ?_
      refine Rx_istore [_, _, _, _, _, _, _, _, _] dX3_variablesConnectedTo_41 rfl rfl rfl ?_
      refine Rx_iload dX3_variablesConnectedTo_43 rfl ?_
      refine Rx_iload dX3_variablesConnectedTo_45 rfl ?_
      refine Rx_iand dX3_variablesConnectedTo_47 ?_
      refine Rx_if_eq_f 58 dX3_variablesConnectedTo_48 (by decide) c0 ?_
      refine Rx_iload dX3_variablesConnectedTo_51 rfl ?_
      refine Rx_iload dX3_variablesConnectedTo_53 rfl ?_
      refine Rx_ior dX3_variablesConnectedTo_55 ?_
      refine Rx_istore [_, _, _, _, _, _, _, _, _] dX3_variablesConnectedTo_56 rfl rfl rfl ?_
      refine Rx_iinc [_, _, _, _, _, _, _, _, _] (1) dX3_variablesConnectedTo_58 rfl (by decide) rfl rfl rfl ?_
      refine Rx_goto 23 dX3_variablesConnectedTo_61 (by decide) ?_
      rw [nI_1]
      refine Rx_dead [_, _, _, _, _, _, _, _, .retAddr 0] ⟨Or.inr rfl, Or.inr rfl, Or.inr rfl, Or.inr rfl, Or.inr rfl, Or.inr rfl, Or.inr rfl, Or.inr rfl, Or.inl rfl, trivial⟩ ?_
      exact nx
theorem conn_out (d : Nat) {h : Hp} {f : Nat → Int32} {b n : Nat} {c : Int32} (h1 : h[25]? = some (obG nr nz nd nn cnt rs rd dt at' ht hf)) (h2 : h[26]? = some (aI 176 f)) (hb : b + n ≤ 176) : ∀ (k i : Nat) (m : Int32), i + k = 10 →
    Rx mX3_variablesConnectedTo (d + 1) 9 [.ref 25, .int c, .int (nI b), .int (nI n), .int m, .int (nI i), .retAddr 0, .retAddr 0, .retAddr 0] [] h (some (.int (cvr fVars (rw f b n) k m))) h := by
  intro k
  induction k with
  | zero =>
    intro i m hi
    have e : i = 10 := by omega
    subst e
    refine Rx_iload dX3_variablesConnectedTo_9 rfl ?_
    refine Rx_bipush (10) dX3_variablesConnectedTo_11 (by decide) ?_
    refine Rx_icmp_ge_t 80 dX3_variablesConnectedTo_13 (by decide) (nI_le (Nat.le_refl _) (by decide)) ?_
    refine Rx_iload dX3_variablesConnectedTo_80 rfl ?_
    exact Rx_iret dX3_variablesConnectedTo_82 rfl
  | succ k ih =>
    intro i m hi
    unfold cvr
    refine Rx_iload dX3_variablesConnectedTo_9 rfl ?_
    refine Rx_bipush (10) dX3_variablesConnectedTo_11 (by decide) ?_
    refine Rx_icmp_ge_f 80 dX3_variablesConnectedTo_13 (by decide) (nI_ge (b := 10) (by omega) (by decide)) ?_
    refine Rx_iload dX3_variablesConnectedTo_16 rfl ?_
    refine Rx_istore [_, _, _, _, _, _, _, _, _] dX3_variablesConnectedTo_18 rfl rfl rfl ?_
    refine Rx_iload_n dX3_variablesConnectedTo_20 rfl ?_
    refine Rx_istore [_, _, _, _, _, _, _, _, _] dX3_variablesConnectedTo_21 rfl rfl rfl ?_
    refine conn_in d h1 h2 hb ?_ n 0 (by omega)
    by_cases c0 : cpass fVars (rw f b n) m = m
    · rw [if_pos c0]
      refine Rx_iload dX3_variablesConnectedTo_64 rfl ?_
      refine Rx_iload dX3_variablesConnectedTo_66 rfl ?_
      refine Rx_icmp_ne_f 74 dX3_variablesConnectedTo_68 (by decide) c0 ?_
      refine Rx_goto 80 dX3_variablesConnectedTo_71 (by decide) ?_
      rw [c0]
      refine Rx_iload dX3_variablesConnectedTo_80 rfl ?_
      exact Rx_iret dX3_variablesConnectedTo_82 rfl
    · rw [if_neg c0]
      refine Rx_iload dX3_variablesConnectedTo_64 rfl ?_
      refine Rx_iload dX3_variablesConnectedTo_66 rfl ?_
      refine Rx_icmp_ne_t 74 dX3_variablesConnectedTo_68 (by decide) c0 ?_
      refine Rx_iinc [_, _, _, _, _, _, _, _, _] (1) dX3_variablesConnectedTo_74 rfl (by decide) rfl rfl rfl ?_
      refine Rx_goto 9 dX3_variablesConnectedTo_77 (by decide) ?_
      rw [nI_1]
      refine Rx_dead [_, _, _, _, _, _, .retAddr 0, .retAddr 0, .retAddr 0] ⟨Or.inr rfl, Or.inr rfl, Or.inr rfl, Or.inr rfl, Or.inr rfl, Or.inr rfl, Or.inl rfl, Or.inl rfl, Or.inl rfl, trivial⟩ ?_
      exact ih (i + 1) _ (by omega)
theorem sp_conn (d : Nat) {h : Hp} {f : Nat → Int32} {b n : Nat} (c : Int32) (h1 : h[25]? = some (obG nr nz nd nn cnt rs rd dt at' ht hf)) (h2 : h[26]? = some (aI 176 f)) (hb : b + n ≤ 176) : Mx mX3_variablesConnectedTo (d + 1) [.ref 25, .int c, .int (nI b), .int (nI n)] h (some (.int (cvr fVars (rw f b n) 10 (fVars c)))) h := by
  refine Mx_of [_, _, _, _, _, _, _, _, _] (by decide +kernel) rfl rfl ?_
  refine Rx_iload_n dX3_variablesConnectedTo_0 rfl ?_
  refine Rx_callS [_] dX3_variablesConnectedTo_1 clX3_86 (sp_varsOf d h c) rfl rfl rfl ?_
  refine Rx_istore [_, _, _, _, _, _, _, _, _] dX3_variablesConnectedTo_4 rfl rfl rfl ?_
  refine Rx_iconst (0) dX3_variablesConnectedTo_6 (by decide) ?_
  refine Rx_istore [_, _, _, _, _, _, _, _, _] dX3_variablesConnectedTo_7 rfl rfl rfl ?_
  exact conn_out d h1 h2 hb 10 0 (fVars c) rfl
/-- how many clauses hold variable v -/
def mfc (both : Nat → Int32) (l : List Int32) (v : Nat) : Nat := (l.filter (fun c => !(decide (c &&& both v = 0)))).length
def mfv (both : Nat → Int32) (l : List Int32) : Nat → Nat × Nat
  | 0 => (1, 0)
  | k + 1 => if (mfv both l k).2 < mfc both l (k + 1) then (k + 1, mfc both l (k + 1)) else mfv both l k
def bothC (v : Nat) : Int32 := fBit (nI v) ||| fBit (-nI v)
theorem mfv_le (both : Nat → Int32) (l : List Int32) : ∀ k, (mfv both l k).1 ≤ max k 1 ∧ 1 ≤ (mfv both l k).1 ∧ (mfv both l k).2 ≤ l.length
  | 0 => ⟨by simp [mfv], by simp [mfv], Nat.zero_le _⟩
  | k + 1 => by
    have := mfv_le both l k
    unfold mfv
    split
    · exact ⟨by show k + 1 ≤ max (k + 1) 1; omega, by show 1 ≤ k + 1; omega, List.length_filter_le _ _⟩
    · exact ⟨by omega, this.2.1, this.2.2⟩
theorem mfv_in (d : Nat) {h : Hp} {f : Nat → Int32} {b n v : Nat} {x3 x4 : Int32} {r : Option Value} {h' : Hp} (h1 : h[25]? = some (obG nr nz nd nn cnt rs rd dt at' ht hf)) (h2 : h[26]? = some (aI 176 f)) (hb : b + n ≤ 176)
    (K : Rx mX3_mostFrequentVariable (d + 2) 65 [.ref 25, .int (nI b), .int (nI n), .int x3, .int x4, .int (nI v), .retAddr 0, .int (nI (mfc bothC (rw f b n) v)), .retAddr 0] [] h r h') : ∀ (k i : Nat), i + k = n → Rx mX3_mostFrequentVariable (d + 2) 35 [.ref 25, .int (nI b), .int (nI n), .int x3, .int x4, .int (nI v), .int (bothC v), .int (nI (mfc bothC (rw f b i) v)), .int (nI (b + i))] [] h r h' := by
  intro k
  induction k with
  | zero =>
    intro i hi
    have e : i = n := by omega
    subst e
    refine Rx_iload dX3_mostFrequentVariable_35 rfl ?_
    refine Rx_iload_n dX3_mostFrequentVariable_37 rfl ?_
    refine Rx_iload_n dX3_mostFrequentVariable_38 rfl ?_
    refine Rx_iadd dX3_mostFrequentVariable_39 ?_
    refine Rx_icmp_ge_t 65 dX3_mostFrequentVariable_40 (by decide) (by rw [nI_add]; exact nI_le (Nat.le_refl _) (by omega)) ?_
    refine Rx_dead [_, _, _, _, _, _, .retAddr 0, _, .retAddr 0] ⟨Or.inr rfl, Or.inr rfl, Or.inr rfl, Or.inr rfl, Or.inr rfl, Or.inr rfl, Or.inl rfl, Or.inr rfl, Or.inl rfl, trivial⟩ ?_
    exact K
  | succ k ih =>
    intro i hi
    have nx := ih (i + 1) (by omega)
    rw [rw_s, mfc, List.filter_append, List.length_append] at nx
    by_cases c0 : f (b + i) &&& bothC v = 0
    · rw [show (List.filter (fun c => !(decide (c &&& bothC v = 0))) [f (b + i)]) = [] from by simp [c0]] at nx
      refine Rx_iload dX3_mostFrequentVariable_35 rfl ?_
      refine Rx_iload_n dX3_mostFrequentVariable_37 rfl ?_
      refine Rx_iload_n dX3_mostFrequentVariable_38 rfl ?_
      refine Rx_iadd dX3_mostFrequentVariable_39 ?_
      refine Rx_icmp_ge_f 65 dX3_mostFrequentVariable_40 (by decide) (by rw [nI_add]; exact nI_ge (by omega) (by omega)) ?_
      refine Rx_aload_n dX3_mostFrequentVariable_43 rfl ?_
      refine Rx_get dX3_mostFrequentVariable_44 flX3_11 h1 rfl ?_
      refine Rx_iload dX3_mostFrequentVariable_47 rfl ?_
      refine Rx_iald (b + i) dX3_mostFrequentVariable_49 h2 (by omega) (by decide) rfl ?_
      refine Rx_iload dX3_mostFrequentVariable_50 rfl ?_
      refine Rx_iand dX3_mostFrequentVariable_52 ?_
      refine Rx_if_eq_t 59 dX3_mostFrequentVariable_53 (by decide) c0 ?_
      refine Rx_iinc [_, _, _, _, _, _, _, _, _] (1) dX3_mostFrequentVariable_59 rfl (by decide) rfl rfl rfl ?_
      refine Rx_goto 35 dX3_mostFrequentVariable_62 (by decide) ?_
      rw [nI_1]
      exact nx
    · rw [show (List.filter (fun c => !(decide (c &&& bothC v = 0))) [f (b + i)]) = [f (b + i)] from by simp [c0]] at nx
      refine Rx_iload dX3_mostFrequentVariable_35 rfl ?_
      refine Rx_iload_n dX3_mostFrequentVariable_37 rfl ?_
      refine Rx_iload_n dX3_mostFrequentVariable_38 rfl ?_
      refine Rx_iadd dX3_mostFrequentVariable_39 ?_
      refine Rx_icmp_ge_f 65 dX3_mostFrequentVariable_40 (by decide) (by rw [nI_add]; exact nI_ge (by omega) (by omega)) ?_
      refine Rx_aload_n dX3_mostFrequentVariable_43 rfl ?_
      refine Rx_get dX3_mostFrequentVariable_44 flX3_11 h1 rfl ?_
      refine Rx_iload dX3_mostFrequentVariable_47 rfl ?_
      refine Rx_iald (b + i) dX3_mostFrequentVariable_49 h2 (by omega) (by decide) rfl ?_
      refine Rx_iload dX3_mostFrequentVariable_50 rfl ?_
      refine Rx_iand dX3_mostFrequentVariable_52 ?_
      refine Rx_if_eq_f 59 dX3_mostFrequentVariable_53 (by decide) c0 ?_
      refine Rx_iinc [_, _, _, _, _, _, _, _, _] (1) dX3_mostFrequentVariable_56 rfl (by decide) rfl rfl rfl ?_
      refine Rx_iinc [_, _, _, _, _, _, _, _, _] (1) dX3_mostFrequentVariable_59 rfl (by decide) rfl rfl rfl ?_
      refine Rx_goto 35 dX3_mostFrequentVariable_62 (by decide) ?_
      rw [nI_1, nI_1]
      exact nx
theorem mfv_out (d : Nat) {h : Hp} {f : Nat → Int32} {b n : Nat} (h1 : h[25]? = some (obG nr nz nd nn cnt rs rd dt at' ht hf)) (h2 : h[26]? = some (aI 176 f)) (hb : b + n ≤ 176) : ∀ (k v : Nat), v + k = 10 →
    Rx mX3_mostFrequentVariable (d + 2) 8 [.ref 25, .int (nI b), .int (nI n), .int (nI (mfv bothC (rw f b n) v).1), .int (nI (mfv bothC (rw f b n) v).2), .int (nI (v + 1)), .retAddr 0, .retAddr 0, .retAddr 0] [] h (some (.int (nI (mfv bothC (rw f b n) 10).1))) h := by
  intro k
  induction k with
  | zero =>
    intro v hv
    have e : v = 10 := by omega
    subst e
    refine Rx_iload dX3_mostFrequentVariable_8 rfl ?_
    refine Rx_bipush (10) dX3_mostFrequentVariable_10 (by decide) ?_
    refine Rx_icmp_gt_t 85 dX3_mostFrequentVariable_12 (by decide) (nI_lt (a := 10) (by decide) (by decide)) ?_
    refine Rx_iload_n dX3_mostFrequentVariable_85 rfl ?_
    exact Rx_iret dX3_mostFrequentVariable_86 rfl
  | succ k ih =>
    intro v hv
    have nx := ih (v + 1) (by omega)
    have hm : mfc bothC (rw f b n) (v + 1) ≤ n := by have := List.length_filter_le (fun c => !(decide (c &&& bothC (v + 1) = 0))) (rw f b n); rw [rw_len] at this; exact this
    have hm2 := (mfv_le bothC (rw f b n) v).2.2
    rw [rw_len] at hm2
    refine Rx_iload dX3_mostFrequentVariable_8 rfl ?_
    refine Rx_bipush (10) dX3_mostFrequentVariable_10 (by decide) ?_
    refine Rx_icmp_gt_f 85 dX3_mostFrequentVariable_12 (by decide) (nI_nlt (b := v + 1) (a := 10) (by omega) (by decide)) ?_
    refine Rx_iload dX3_mostFrequentVariable_15 rfl ?_
    refine Rx_callS [_] dX3_mostFrequentVariable_17 clX3_112 (sp_bitOf d h _) rfl rfl rfl ?_
    refine Rx_iload dX3_mostFrequentVariable_20 rfl ?_
    refine Rx_ineg dX3_mostFrequentVariable_22 ?_
    refine Rx_callS [_] dX3_mostFrequentVariable_23 clX3_112 (sp_bitOf d h _) rfl rfl rfl ?_
    refine Rx_ior dX3_mostFrequentVariable_26 ?_
    refine Rx_istore [_, _, _, _, _, _, _, _, _] dX3_mostFrequentVariable_27 rfl rfl rfl ?_
    refine Rx_iconst (0) dX3_mostFrequentVariable_29 (by decide) ?_
    refine Rx_istore [_, _, _, _, _, _, _, _, _] dX3_mostFrequentVariable_30 rfl rfl rfl ?_
    refine Rx_iload_n dX3_mostFrequentVariable_32 rfl ?_
    refine Rx_istore [_, _, _, _, _, _, _, _, _] dX3_mostFrequentVariable_33 rfl rfl rfl ?_
    refine mfv_in d h1 h2 hb ?_ n 0 (by omega)
    simp only [mfv] at nx
    by_cases c0 : (mfv bothC (rw f b n) v).2 < mfc bothC (rw f b n) (v + 1)
    · rw [if_pos c0] at nx
      refine Rx_iload dX3_mostFrequentVariable_65 rfl ?_
      refine Rx_iload dX3_mostFrequentVariable_67 rfl ?_
      refine Rx_icmp_le_f 79 dX3_mostFrequentVariable_69 (by decide) (fun z => absurd z (Int32.not_le.mpr (nI_lt c0 (by omega)))) ?_
      refine Rx_iload dX3_mostFrequentVariable_72 rfl ?_
      refine Rx_istore_n [_, _, _, _, _, _, _, _, _] dX3_mostFrequentVariable_74 rfl rfl rfl ?_
      refine Rx_iload dX3_mostFrequentVariable_75 rfl ?_
      refine Rx_istore [_, _, _, _, _, _, _, _, _] dX3_mostFrequentVariable_77 rfl rfl rfl ?_
      refine Rx_iinc [_, _, _, _, _, _, _, _, _] (1) dX3_mostFrequentVariable_79 rfl (by decide) rfl rfl rfl ?_
      refine Rx_goto 8 dX3_mostFrequentVariable_82 (by decide) ?_
      rw [nI_1]
      refine Rx_dead [_, _, _, _, _, _, .retAddr 0, .retAddr 0, .retAddr 0] ⟨Or.inr rfl, Or.inr rfl, Or.inr rfl, Or.inr rfl, Or.inr rfl, Or.inr rfl, Or.inl rfl, Or.inl rfl, Or.inl rfl, trivial⟩ ?_
      exact nx
    · rw [if_neg c0] at nx
      refine Rx_iload dX3_mostFrequentVariable_65 rfl ?_
      refine Rx_iload dX3_mostFrequentVariable_67 rfl ?_
      refine Rx_icmp_le_t 79 dX3_mostFrequentVariable_69 (by decide) (nI_le (by omega) (by omega)) ?_
      refine Rx_iinc [_, _, _, _, _, _, _, _, _] (1) dX3_mostFrequentVariable_79 rfl (by decide) rfl rfl rfl ?_
      refine Rx_goto 8 dX3_mostFrequentVariable_82 (by decide) ?_
      rw [nI_1]
      refine Rx_dead [_, _, _, _, _, _, .retAddr 0, .retAddr 0, .retAddr 0] ⟨Or.inr rfl, Or.inr rfl, Or.inr rfl, Or.inr rfl, Or.inr rfl, Or.inr rfl, Or.inl rfl, Or.inl rfl, Or.inl rfl, trivial⟩ ?_
      exact nx
theorem sp_mfv (d : Nat) {h : Hp} {f : Nat → Int32} {b n : Nat} (h1 : h[25]? = some (obG nr nz nd nn cnt rs rd dt at' ht hf)) (h2 : h[26]? = some (aI 176 f)) (hb : b + n ≤ 176) : Mx mX3_mostFrequentVariable (d + 2) [.ref 25, .int (nI b), .int (nI n)] h (some (.int (nI (mfv bothC (rw f b n) 10).1))) h := by
  refine Mx_of [_, _, _, _, _, _, _, _, _] (by decide +kernel) rfl rfl ?_
  refine Rx_iconst (1) dX3_mostFrequentVariable_0 (by decide) ?_
  refine Rx_istore_n [_, _, _, _, _, _, _, _, _] dX3_mostFrequentVariable_1 rfl rfl rfl ?_
  refine Rx_iconst (0) dX3_mostFrequentVariable_2 (by decide) ?_
  refine Rx_istore [_, _, _, _, _, _, _, _, _] dX3_mostFrequentVariable_3 rfl rfl rfl ?_
  refine Rx_iconst (1) dX3_mostFrequentVariable_5 (by decide) ?_
  refine Rx_istore [_, _, _, _, _, _, _, _, _] dX3_mostFrequentVariable_6 rfl rfl rfl ?_
  exact mfv_out d h1 h2 hb 10 0 rfl
def hshL (l : List Int32) (s : Int32) : Int32 := l.foldl (fun a c => 31 * a + c) s
def bkt (l : List Int32) : Nat := ((hshL l (nI l.length) ^^^ ush (hshL l (nI l.length)) 7) ^^^ ush (hshL l (nI l.length)) 15).toBitVec.toNat % 64
theorem bkt_lt (l : List Int32) : bkt l < 64 := Nat.mod_lt _ (by decide)
theorem bkt_loop (d : Nat) {h : Hp} {f : Nat → Int32} {b n : Nat} (h1 : h[25]? = some (obG nr nz nd nn cnt rs rd dt at' ht hf)) (h2 : h[26]? = some (aI 176 f)) (hb : b + n ≤ 176) : ∀ (k i : Nat), i + k = n →
    Rx mX3_bucketOf d 5 [.ref 25, .int (nI b), .int (nI n), .int (hshL (rw f b i) (nI n)), .int (nI (b + i))] [] h (some (.int (nI (bkt (rw f b n))))) h := by
  intro k
  induction k with
  | zero =>
    intro i hi
    have e : i = n := by omega
    subst e
    have eb : ((hshL (rw f b i) (nI i) ^^^ ush (hshL (rw f b i) (nI i)) 7) ^^^ ush (hshL (rw f b i) (nI i)) 15) &&& 63 = nI (bkt (rw f b i)) := by
      rw [pk_and _ 6 (by decide)]
      unfold bkt
      rw [rw_len]
    refine Rx_iload dX3_bucketOf_5 rfl ?_
    refine Rx_iload_n dX3_bucketOf_7 rfl ?_
    refine Rx_iload_n dX3_bucketOf_8 rfl ?_
    refine Rx_iadd dX3_bucketOf_9 ?_
    refine Rx_icmp_ge_t 32 dX3_bucketOf_10 (by decide) (by rw [nI_add]; exact nI_le (Nat.le_refl _) (by omega)) ?_
    refine Rx_iload_n dX3_bucketOf_32 rfl ?_
    refine Rx_iload_n dX3_bucketOf_33 rfl ?_
    refine Rx_bipush (7) dX3_bucketOf_34 (by decide) ?_
    refine Rx_iushr dX3_bucketOf_36 ?_
    refine Rx_ixor dX3_bucketOf_37 ?_
    refine Rx_iload_n dX3_bucketOf_38 rfl ?_
    refine Rx_bipush (15) dX3_bucketOf_39 (by decide) ?_
    refine Rx_iushr dX3_bucketOf_41 ?_
    refine Rx_ixor dX3_bucketOf_42 ?_
    refine Rx_bipush (63) dX3_bucketOf_43 (by decide) ?_
    refine Rx_iand dX3_bucketOf_45 ?_
    rw [eb]
    exact Rx_iret dX3_bucketOf_46 rfl
  | succ k ih =>
    intro i hi
    refine Rx_iload dX3_bucketOf_5 rfl ?_
    refine Rx_iload_n dX3_bucketOf_7 rfl ?_
    refine Rx_iload_n dX3_bucketOf_8 rfl ?_
    refine Rx_iadd dX3_bucketOf_9 ?_
    refine Rx_icmp_ge_f 32 dX3_bucketOf_10 (by decide) (by rw [nI_add]; exact nI_ge (by omega) (by omega)) ?_
    refine Rx_bipush (31) dX3_bucketOf_13 (by decide) ?_
    refine Rx_iload_n dX3_bucketOf_15 rfl ?_
    refine Rx_imul dX3_bucketOf_16 ?_
    refine Rx_aload_n dX3_bucketOf_17 rfl ?_
    refine Rx_get dX3_bucketOf_18 flX3_11 h1 rfl ?_
    refine Rx_iload dX3_bucketOf_21 rfl ?_
    refine Rx_iald (b + i) dX3_bucketOf_23 h2 (by omega) (by decide) rfl ?_
    refine Rx_iadd dX3_bucketOf_24 ?_
    refine Rx_istore_n [_, _, _, _, _] dX3_bucketOf_25 rfl rfl rfl ?_
    refine Rx_iinc [_, _, _, _, _] (1) dX3_bucketOf_26 rfl (by decide) rfl rfl rfl ?_
    refine Rx_goto 5 dX3_bucketOf_29 (by decide) ?_
    rw [nI_1]
    have := ih (i + 1) (by omega)
    rw [rw_s, hshL, List.foldl_append] at this
    exact this
theorem sp_bkt (d : Nat) {h : Hp} {f : Nat → Int32} {b n : Nat} (h1 : h[25]? = some (obG nr nz nd nn cnt rs rd dt at' ht hf)) (h2 : h[26]? = some (aI 176 f)) (hb : b + n ≤ 176) : Mx mX3_bucketOf d [.ref 25, .int (nI b), .int (nI n)] h (some (.int (nI (bkt (rw f b n))))) h := by
  refine Mx_of [_, _, _, _, _] (by decide +kernel) rfl rfl ?_
  refine Rx_iload_n dX3_bucketOf_0 rfl ?_
  refine Rx_istore_n [_, _, _, _, _] dX3_bucketOf_1 rfl rfl rfl ?_
  refine Rx_iload_n dX3_bucketOf_2 rfl ?_
  refine Rx_istore [_, _, _, _, _] dX3_bucketOf_3 rfl rfl rfl ?_
  exact bkt_loop d h1 h2 hb n 0 (by omega)
end GR2
