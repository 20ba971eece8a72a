/-! CnfCompiler.WeightedSum: cells 35, 36 (low), 37 (high) -/
/-- the product of the weights of i literals from variable fv on, as the bits of a tell -/
def pw (w : Nat → Int32) (fv a : Nat) : Nat → Int64
  | 0 => 1
  | i + 1 => pw w fv a i * (w (2 * (fv + i) + (1 - a / 2 ^ i % 2))).toInt64
theorem prod_in (d : Nat) {h : Hp} {n as : Int32} {w : Nat → Int32} {q fv a : Nat} {Q : Option Value → Hp → Prop} (h1 : h[1]? = some (obS 2 n as 3)) (h3 : h[3]? = some (aI 22 w)) (hfv1 : 1 ≤ fv) (hfv : fv ≤ 6) (ha : a < 32)
    (K : Rq mX7_fillProducts (d + 1) 61 [.ref q, .int (nI fv), .ref 1, .int (nI a), .long (pw w fv a 5), .retAddr 0, .int (nI 5), .retAddr 0] [] h Q) : ∀ (k i : Nat), i + k = 5 → Rq mX7_fillProducts (d + 1) 20 [.ref q, .int (nI fv), .ref 1, .int (nI a), .long (pw w fv a i), .retAddr 0, .int (nI i), .retAddr 0] [] h Q := by
  intro k
  induction k with
  | zero =>
    intro i hi
    have e : i = 5 := by omega
    subst e
    refine Rq_iload dX7_fillProducts_20 rfl ?_
    refine Rq_iconst (5) dX7_fillProducts_22 (by decide) ?_
    refine Rq_icmp_ge_t 61 dX7_fillProducts_23 (by decide) (nI_le (Nat.le_refl _) (by decide)) ?_
    exact K
  | succ k ih =>
    intro i hi
    have hb : a / 2 ^ i % 2 < 2 := Nat.mod_lt _ (by decide)
    have hda : a / 2 ^ i ≤ a := Nat.div_le_self _ _
    refine Rq_iload dX7_fillProducts_20 rfl ?_
    refine Rq_iconst (5) dX7_fillProducts_22 (by decide) ?_
    refine Rq_icmp_ge_f 61 dX7_fillProducts_23 (by decide) (nI_ge (b := 5) (by omega) (by decide)) ?_
    refine Rq_iconst (1) dX7_fillProducts_26 (by decide) ?_
    refine Rq_iload_n dX7_fillProducts_27 rfl ?_
    refine Rq_iload dX7_fillProducts_28 rfl ?_
    refine Rq_ishr dX7_fillProducts_30 ?_
    refine Rq_iconst (1) dX7_fillProducts_31 (by decide) ?_
    refine Rq_iand dX7_fillProducts_32 ?_
    refine Rq_isub dX7_fillProducts_33 ?_
    rw [pk_shrN (by omega) _ i (s_l _ (by omega)), nI_m2 (by omega), show (1 : Int32) = nI 1 from rfl, pk_sub (by omega)]
    refine Rq_istore [_, _, _, _, _, _, _, _] dX7_fillProducts_34 rfl rfl rfl ?_
    refine Rq_lload dX7_fillProducts_36 rfl ?_
    refine Rq_aload_n dX7_fillProducts_38 rfl ?_
    refine Rq_iconst (2) dX7_fillProducts_39 (by decide) ?_
    refine Rq_iload_n dX7_fillProducts_40 rfl ?_
    refine Rq_iload dX7_fillProducts_41 rfl ?_
    refine Rq_iadd dX7_fillProducts_43 ?_
    refine Rq_imul dX7_fillProducts_44 ?_
    refine Rq_iload dX7_fillProducts_45 rfl ?_
    refine Rq_iadd dX7_fillProducts_47 ?_
    rw [nI_add, show (2 : Int32) = nI 2 from rfl, pk_mul, nI_add]
    refine Rq_callV [_] dX7_fillProducts_48 clX7_28 rfl h1 (sp_weightOf d h1 h3 (by omega)) rfl rfl rfl ?_
    refine Rq_i2l dX7_fillProducts_51 ?_
    refine Rq_lmul dX7_fillProducts_52 ?_
    refine Rq_lstore [_, _, _, _, _, _, _, _] dX7_fillProducts_53 rfl rfl rfl ?_
    refine Rq_iinc [_, _, _, _, _, _, _, _] (1) dX7_fillProducts_55 rfl (by decide) rfl rfl rfl ?_
    refine Rq_goto 20 dX7_fillProducts_58 (by decide) ?_
    rw [show (1 : Int32) = nI 1 from rfl, nI_add]
    refine Rq_dead [_, _, _, _, _, .retAddr 0, _, .retAddr 0] ⟨Or.inr rfl, Or.inr rfl, Or.inr rfl, Or.inr rfl, Or.inr rfl, Or.inl rfl, Or.inr rfl, Or.inl rfl, trivial⟩ ?_
    exact ih (i + 1) (by omega)
def pwf (f : Nat → Int64) (w : Nat → Int32) (fv i : Nat) : Nat → Int64 := fun j => if j < i then pw w fv j 5 else f j
theorem pwf_s (f : Nat → Int64) (w : Nat → Int32) (fv i : Nat) : vp_updL (pwf f w fv i) i (pw w fv i 5) = pwf f w fv (i + 1) := by
  funext j
  simp only [vp_updL, pwf]
  by_cases h1 : j = i
  · subst h1; rw [if_pos rfl, if_pos (by omega)]
  · by_cases h2 : j < i
    · rw [if_neg h1, if_pos h2, if_pos (by omega)]
    · rw [if_neg h1, if_neg h2, if_neg (by omega)]
theorem prod_out (d : Nat) {h : Hp} {n as : Int32} {w : Nat → Int32} {f : Nat → Int64} {q fv : Nat} (h1 : h[1]? = some (obS 2 n as 3)) (h3 : h[3]? = some (aI 22 w)) (hq : h[q]? = some (aL 32 f)) (q1 : q ≠ 1) (q3 : q ≠ 3) (hfv1 : 1 ≤ fv) (hfv : fv ≤ 6) : ∀ (k a : Nat), a + k = 32 →
    Rq mX7_fillProducts (d + 1) 2 [.ref q, .int (nI fv), .ref 1, .int (nI a), .retAddr 0, .retAddr 0, .retAddr 0, .retAddr 0] [] (h.set q (aL 32 (pwf f w fv a))) (fun r h' => r = none ∧ h' = h.set q (aL 32 (pwf f w fv 32))) := by
  intro k
  induction k with
  | zero =>
    intro a ha
    have e : a = 32 := by omega
    subst e
    refine Rq_iload_n dX7_fillProducts_2 rfl ?_
    refine Rq_bipush (32) dX7_fillProducts_3 (by decide) ?_
    refine Rq_icmp_ge_t 72 dX7_fillProducts_5 (by decide) (nI_le (Nat.le_refl _) (by decide)) ?_
    refine Rq_vret dX7_fillProducts_72 rfl ?_
    exact ⟨rfl, rfl⟩
  | succ k ih =>
    intro a ha
    have hq1 := hS (aL 32 (pwf f w fv a)) hq
    refine Rq_iload_n dX7_fillProducts_2 rfl ?_
    refine Rq_bipush (32) dX7_fillProducts_3 (by decide) ?_
    refine Rq_icmp_ge_f 72 dX7_fillProducts_5 (by decide) (nI_ge (b := 32) (by omega) (by decide)) ?_
    refine Rq_iload_n dX7_fillProducts_8 rfl ?_
    refine Rq_aload_n dX7_fillProducts_9 rfl ?_
    refine Rq_alenL dX7_fillProducts_10 hq1 ?_
    refine Rq_icmp_ge_f 72 dX7_fillProducts_11 (by decide) (nI_ge (b := 32) (by omega) (by decide)) ?_
    refine Rq_lconst (1) dX7_fillProducts_14 (by decide) ?_
    refine Rq_lstore [_, _, _, _, _, _, _, _] dX7_fillProducts_15 rfl rfl rfl ?_
    refine Rq_iconst (0) dX7_fillProducts_17 (by decide) ?_
    refine Rq_istore [_, _, _, _, _, _, _, _] dX7_fillProducts_18 rfl rfl rfl ?_
    refine prod_in d (hNs q1 h1) (hNs q3 h3) hfv1 hfv (by omega) ?_ 5 0 rfl
    refine Rq_aload_n dX7_fillProducts_61 rfl ?_
    refine Rq_iload_n dX7_fillProducts_62 rfl ?_
    refine Rq_lload dX7_fillProducts_63 rfl ?_
    refine Rq_last a dX7_fillProducts_65 hq1 (by omega) (by decide) rfl ?_
    rw [List.set_set, pwf_s]
    refine Rq_iinc [_, _, _, _, _, _, _, _] (1) dX7_fillProducts_66 rfl (by decide) rfl rfl rfl ?_
    refine Rq_goto 2 dX7_fillProducts_69 (by decide) ?_
    rw [nI_1]
    refine Rq_dead [_, _, _, _, .retAddr 0, .retAddr 0, .retAddr 0, .retAddr 0] ⟨Or.inr rfl, Or.inr rfl, Or.inr rfl, Or.inr rfl, Or.inl rfl, Or.inl rfl, Or.inl rfl, Or.inl rfl, trivial⟩ ?_
    exact ih (a + 1) (by omega)
theorem sp_prod (d : Nat) {h : Hp} {n as : Int32} {w : Nat → Int32} {f : Nat → Int64} {q fv : Nat} (h1 : h[1]? = some (obS 2 n as 3)) (h3 : h[3]? = some (aI 22 w)) (hq : h[q]? = some (aL 32 f)) (q1 : q ≠ 1) (q3 : q ≠ 3) (hfv1 : 1 ≤ fv) (hfv : fv ≤ 6) : Mx mX7_fillProducts (d + 1) [.ref q, .int (nI fv), .ref 1] h none (h.set q (aL 32 (pwf f w fv 32))) := by
  have : Mq mX7_fillProducts (d + 1) [.ref q, .int (nI fv), .ref 1] h (fun r h' => r = none ∧ h' = h.set q (aL 32 (pwf f w fv 32))) := by
    refine Mq_of [_, _, _, _, _, _, _, _] (by decide +kernel) rfl rfl ?_
    refine Rq_iconst (0) dX7_fillProducts_0 (by decide) ?_
    refine Rq_istore_n [_, _, _, _, _, _, _, _] dX7_fillProducts_1 rfl rfl rfl ?_
    have := prod_out d h1 h3 hq q1 q3 hfv1 hfv 32 0 rfl
    rw [show pwf f w fv 0 = f from by funext j; simp [pwf], hset_id hq] at this
    exact this
  obtain ⟨r, h', ⟨rfl, rfl⟩, K⟩ := this
  exact K
def WI (h : Hp) : Prop := h[35]? = some (.inr (7, [.ref 36, .ref 37])) ∧ (∃ f, h[36]? = some (aL 32 f)) ∧ ∃ f, h[37]? = some (aL 32 f)
/-- the weights of the members among k assignments of the lower half -/
def ptw (f lo : Nat → Int64) (hi : Nat) : Nat → Int64
  | 0 => 0
  | k + 1 => if tbL (f ((hi * 32 + k) / 64)) ((hi * 32 + k) % 64) then ptw f lo hi k + lo k else ptw f lo hi k
def ovw (f lo hp : Nat → Int64) : Nat → Int64
  | 0 => 0
  | k + 1 => ovw f lo hp k + ptw f lo k 32 * hp k
theorem over_in (d : Nat) {h : Hp} {f lo : Nat → Int64} {a : Nat} {s : Int64} {Q : Option Value → Hp → Prop} (m : MI h f) (h1 : h[35]? = some (.inr (7, [.ref 36, .ref 37]))) (h2 : h[36]? = some (aL 32 lo)) (ha : a < 32)
    (K : Rq mX7_over (d + 2) 77 [.ref 35, .ref 32, .ref 1, .long s, .retAddr 0, .int (nI a), .long (ptw f lo a 32), .retAddr 0, .int (nI 32)] [] h Q) : ∀ (k i : Nat), i + k = 32 → Rq mX7_over (d + 2) 37 [.ref 35, .ref 32, .ref 1, .long s, .retAddr 0, .int (nI a), .long (ptw f lo a i), .retAddr 0, .int (nI i)] [] h Q := by
  intro k
  induction k with
  | zero =>
    intro i hi
    have e : i = 32 := by omega
    subst e
    refine Rq_iload dX7_over_37 rfl ?_
    refine Rq_bipush (32) dX7_over_39 (by decide) ?_
    refine Rq_icmp_ge_t 77 dX7_over_41 (by decide) (nI_le (Nat.le_refl _) (by decide)) ?_
    exact K
  | succ k ih =>
    intro i hi
    refine Rq_iload dX7_over_37 rfl ?_
    refine Rq_bipush (32) dX7_over_39 (by decide) ?_
    refine Rq_icmp_ge_f 77 dX7_over_41 (by decide) (nI_ge (b := 32) (by omega) (by decide)) ?_
    refine Rq_aload_n dX7_over_44 rfl ?_
    refine Rq_iload dX7_over_45 rfl ?_
    refine Rq_bipush (32) dX7_over_47 (by decide) ?_
    refine Rq_imul dX7_over_49 ?_
    refine Rq_iload dX7_over_50 rfl ?_
    refine Rq_iadd dX7_over_52 ?_
    rw [show (32 : Int32) = nI 32 from rfl, pk_mul, nI_add]
    have nx := ih (i + 1) (by omega)
    simp only [ptw] at nx
    have hs := sp_has d m (a := a * 32 + i) (by omega)
    cases c : tbL (f ((a * 32 + i) / 64)) ((a * 32 + i) % 64) with
    | true =>
      rw [c] at hs nx
      refine Rq_callV [_] dX7_over_53 clX7_22 rfl m.1 hs rfl rfl rfl ?_
      refine Rq_if_eq_f 71 dX7_over_56 (by decide) (by decide) ?_
      refine Rq_lload dX7_over_59 rfl ?_
      refine Rq_aload_n dX7_over_61 rfl ?_
      refine Rq_get dX7_over_62 flX7_11 h1 rfl ?_
      refine Rq_iload dX7_over_65 rfl ?_
      refine Rq_lald i dX7_over_67 h2 (by omega) (by decide) rfl ?_
      refine Rq_ladd dX7_over_68 ?_
      refine Rq_lstore [_, _, _, _, _, _, _, _, _] dX7_over_69 rfl rfl rfl ?_
      refine Rq_iinc [_, _, _, _, _, _, _, _, _] (1) dX7_over_71 rfl (by decide) rfl rfl rfl ?_
      refine Rq_goto 37 dX7_over_74 (by decide) ?_
      rw [nI_1]
      exact nx
    | false =>
      rw [c] at hs nx
      refine Rq_callV [_] dX7_over_53 clX7_22 rfl m.1 hs rfl rfl rfl ?_
      refine Rq_if_eq_t 71 dX7_over_56 (by decide) rfl ?_
      refine Rq_iinc [_, _, _, _, _, _, _, _, _] (1) dX7_over_71 rfl (by decide) rfl rfl rfl ?_
      refine Rq_goto 37 dX7_over_74 (by decide) ?_
      rw [nI_1]
      exact nx
theorem over_out (d : Nat) {h : Hp} {f lo hp : Nat → Int64} (m : MI h f) (h1 : h[35]? = some (.inr (7, [.ref 36, .ref 37]))) (h2 : h[36]? = some (aL 32 lo)) (h3 : h[37]? = some (aL 32 hp)) : ∀ (k a : Nat), a + k = 32 →
    Rq mX7_over (d + 2) 24 [.ref 35, .ref 32, .ref 1, .long (ovw f lo hp a), .retAddr 0, .int (nI a), .retAddr 0, .retAddr 0, .retAddr 0] [] h (fun r h' => r = some (.long (ovw f lo hp 32)) ∧ h' = h) := by
  intro k
  induction k with
  | zero =>
    intro a ha
    have e : a = 32 := by omega
    subst e
    refine Rq_iload dX7_over_24 rfl ?_
    refine Rq_bipush (32) dX7_over_26 (by decide) ?_
    refine Rq_icmp_ge_t 96 dX7_over_28 (by decide) (nI_le (Nat.le_refl _) (by decide)) ?_
    refine Rq_lload_n dX7_over_96 rfl ?_
    refine Rq_lret dX7_over_97 rfl ?_
    exact ⟨rfl, rfl⟩
  | succ k ih =>
    intro a ha
    refine Rq_iload dX7_over_24 rfl ?_
    refine Rq_bipush (32) dX7_over_26 (by decide) ?_
    refine Rq_icmp_ge_f 96 dX7_over_28 (by decide) (nI_ge (b := 32) (by omega) (by decide)) ?_
    refine Rq_lconst (0) dX7_over_31 (by decide) ?_
    refine Rq_lstore [_, _, _, _, _, _, _, _, _] dX7_over_32 rfl rfl rfl ?_
    refine Rq_iconst (0) dX7_over_34 (by decide) ?_
    refine Rq_istore [_, _, _, _, _, _, _, _, _] dX7_over_35 rfl rfl rfl ?_
    refine over_in d m h1 h2 (by omega) ?_ 32 0 rfl
    refine Rq_lload_n dX7_over_77 rfl ?_
    refine Rq_lload dX7_over_78 rfl ?_
    refine Rq_aload_n dX7_over_80 rfl ?_
    refine Rq_get dX7_over_81 flX7_15 h1 rfl ?_
    refine Rq_iload dX7_over_84 rfl ?_
    refine Rq_lald a dX7_over_86 h3 (by omega) (by decide) rfl ?_
    refine Rq_lmul dX7_over_87 ?_
    refine Rq_ladd dX7_over_88 ?_
    refine Rq_lstore_n [_, _, _, _, _, _, _, _, _] dX7_over_89 rfl rfl rfl ?_
    refine Rq_iinc [_, _, _, _, _, _, _, _, _] (1) dX7_over_90 rfl (by decide) rfl rfl rfl ?_
    refine Rq_goto 24 dX7_over_93 (by decide) ?_
    rw [nI_1]
    refine Rq_dead [_, _, _, _, .retAddr 0, _, .retAddr 0, .retAddr 0, .retAddr 0] ⟨Or.inr rfl, Or.inr rfl, Or.inr rfl, Or.inr rfl, Or.inl rfl, Or.inr rfl, Or.inl rfl, Or.inl rfl, Or.inl rfl, trivial⟩ ?_
    exact ih (a + 1) (by omega)
theorem ovw_cong {f f' lo lo' hp hp' : Nat → Int64} (hf : ∀ j, j < 16 → f j = f' j) (hl : ∀ j, j < 32 → lo j = lo' j) (hh : ∀ j, j < 32 → hp j = hp' j) : ∀ k, k ≤ 32 → ovw f lo hp k = ovw f' lo' hp' k := by
  have p1 : ∀ a, a < 32 → ∀ k, k ≤ 32 → ptw f lo a k = ptw f' lo' a k := by
    intro a ha k
    induction k with
    | zero => intro _; rfl
    | succ k ih =>
      intro hk
      simp only [ptw]
      rw [ih (by omega), hf _ (by omega), hl k (by omega)]
  intro k
  induction k with
  | zero => intro _; rfl
  | succ k ih =>
    intro hk
    simp only [ovw]
    rw [ih (by omega), p1 k (by omega) 32 (by omega), hh k (by omega)]
theorem sp_over (d : Nat) {h : Hp} {f : Nat → Int64} {S : SC} (m : MI h f) (x : WI h) (s : SV h 1 S) : Mq mX7_over (d + 2) [.ref 35, .ref 32, .ref 1] h (fun r h' => r = some (.long (ovw f (fun j => pw S.2.2.2 1 j 5) (fun j => pw S.2.2.2 6 j 5) 32)) ∧ Fr [36, 37] h h' ∧ WI h') := by
  obtain ⟨x1, ⟨f1, x2⟩, f2, x3⟩ := x
  obtain ⟨s1, -, w, s3, s4⟩ := s
  have pc : ∀ fv, 1 ≤ fv → fv ≤ 6 → ∀ a i, i ≤ 5 → pw w fv a i = pw S.2.2.2 fv a i := by
    intro fv e1 e2 a i
    induction i with
    | zero => intro _; rfl
    | succ i ih =>
      intro hi
      have hb : a / 2 ^ i % 2 < 2 := Nat.mod_lt _ (by decide)
      simp only [pw]
      rw [ih (by omega), s4 _ (by omega)]
  refine Mq_of [_, _, _, _, _, _, _, _, _] (by decide +kernel) rfl rfl ?_
  refine Rq_aload_n dX7_over_0 rfl ?_
  refine Rq_get dX7_over_1 flX7_11 x1 rfl ?_
  refine Rq_iconst (1) dX7_over_4 (by decide) ?_
  refine Rq_aload_n dX7_over_5 rfl ?_
  refine Rq_callSv [_, _, _] dX7_over_6 clX7_18 (sp_prod d s1 s3 x2 (by decide) (by decide) (by decide) (by decide)) rfl rfl rfl ?_
  refine Rq_aload_n dX7_over_9 rfl ?_
  refine Rq_get dX7_over_10 flX7_15 (hNs (by decide) x1) rfl ?_
  refine Rq_bipush (6) dX7_over_13 (by decide) ?_
  refine Rq_aload_n dX7_over_15 rfl ?_
  refine Rq_callSv [_, _, _] dX7_over_16 clX7_18 (sp_prod d (hNs (by decide) s1) (hNs (by decide) s3) (hNs (by decide) x3) (by decide) (by decide) (by decide) (by decide)) rfl rfl rfl ?_
  refine Rq_lconst (0) dX7_over_19 (by decide) ?_
  refine Rq_lstore_n [_, _, _, _, _, _, _, _, _] dX7_over_20 rfl rfl rfl ?_
  refine Rq_iconst (0) dX7_over_21 (by decide) ?_
  refine Rq_istore [_, _, _, _, _, _, _, _, _] dX7_over_22 rfl rfl rfl ?_
  refine (over_out d (m.fr (T := [36, 37]) (Fr.trans (Fr.set (by decide)) (Fr.set (by decide))) (by decide) (by decide) (by decide)) (hNs (by decide) (hNs (by decide) x1)) (hNs (by decide) (hS _ x2)) (hS _ (hNs (by decide) x3)) 32 0 rfl).mono ?_
  rintro r h' ⟨rfl, rfl⟩
  refine ⟨?_, Fr.trans (Fr.set (by decide)) (Fr.set (by decide)), hNs (by decide) (hNs (by decide) x1), ⟨_, hNs (by decide) (hS _ x2)⟩, _, hS _ (hNs (by decide) x3)⟩
  rw [ovw_cong (f' := f) (lo' := fun j => pw S.2.2.2 1 j 5) (hp' := fun j => pw S.2.2.2 6 j 5) (fun j _ => rfl) (fun j hj => by simp only [pwf]; rw [if_pos hj, pc 1 (by decide) (by decide) j 5 (by decide)]) (fun j hj => by simp only [pwf]; rw [if_pos hj, pc 6 (by decide) (by decide) j 5 (by decide)]) 32 (by decide)]
