/-! Graph: all of it -/
def GI (h : Hp) (f : Nat → Int32) (T : List Nd) (rs rd dt at' ht hf : Int32) : Prop := ∃ (nr nz nd nn cap : Nat) (heads : Nat → Int32), h[25]? = some (obG nr nz nd nn (nI T.length) rs rd dt at' ht hf) ∧ h[26]? = some (aI 176 f) ∧ h[27]? = some (aI 64 heads) ∧ (∀ b, b < 64 → heads b = lastI (bkT T) b T.length) ∧ GT h nr nz nd nn cap T ∧ capOK cap ∧ (own nr ∧ own nz ∧ own nd ∧ own nn) ∧ (nr ≠ nz ∧ nr ≠ nd ∧ nr ≠ nn ∧ nz ≠ nd ∧ nz ≠ nn ∧ nd ≠ nn) ∧ LB h cap
theorem getD_app_lt {α : Type} {l : List α} {x d : α} {i : Nat} (h : i < l.length) : (l ++ [x]).getD i d = l.getD i d := by
  rw [List.getD_eq_getElem?_getD, List.getD_eq_getElem?_getD, List.getElem?_append_left h]
theorem getD_app_eq {α : Type} {l : List α} {x d : α} : (l ++ [x]).getD l.length d = x := by
  rw [List.getD_eq_getElem?_getD, List.getElem?_append_right (Nat.le_refl _), Nat.sub_self]; rfl
theorem bkT_app {T : List Nd} {q : Nd} {i : Nat} (h : i < T.length) : bkT (T ++ [q]) i = bkT T i := by unfold bkT; rw [getD_app_lt h]
theorem lastI_app {T : List Nd} {q : Nd} {b k : Nat} (h : k ≤ T.length) : lastI (bkT (T ++ [q])) b k = lastI (bkT T) b k := lastI_cong (fun i hi => bkT_app (by omega))
theorem own.ne {a k : Nat} (o : own a) (hk : k < 28 ∨ (31 < k ∧ k < 62)) : a ≠ k := by rcases o with o | o <;> omega
section AN
variable {nr nz nd nn cap : Nat} {rs rd dt at' ht hf : Int32}
theorem add_29 (d : Nat) {h : Hp} {f heads NR NZ ND NN : Nat → Int32} {T : List Nd} {b n : Nat} {dep : Int32} (h1 : h[25]? = some (obG nr nz nd nn (nI T.length) rs rd dt at' ht hf)) (h2 : h[26]? = some (aI 176 f)) (h3 : h[27]? = some (aI 64 heads)) (hh : ∀ b, b < 64 → heads b = lastI (bkT T) b T.length)
    (g1 : h[nr]? = some (aI (16 * cap) NR)) (g2 : h[nz]? = some (aI cap NZ)) (g3 : h[nd]? = some (aI cap ND)) (g4 : h[nn]? = some (aI cap NN)) (g6 : ∀ i, i < T.length → (T.getD i ([], 0)).1.length ≤ 16 ∧ NZ i = nI (T.getD i ([], 0)).1.length ∧ rw NR (16 * i) (T.getD i ([], 0)).1.length = (T.getD i ([], 0)).1 ∧ ND i = (T.getD i ([], 0)).2 ∧ NN i = lastI (bkT T) (bkT T i) i)
    (hc : capOK cap) (ho : own nr ∧ own nz ∧ own nd ∧ own nn) (hne : nr ≠ nz ∧ nr ≠ nd ∧ nr ≠ nn ∧ nz ≠ nd ∧ nz ≠ nn ∧ nd ≠ nn) (lb : LB h cap) (hT : T.length < cap) (hn : n ≤ 16) (hb : b + n ≤ 176) :
    Rq mX3_addNode (d + 1) 29 [.ref 25, .int (nI (bkt (rw f b n))), .int (nI b), .int (nI n), .int dep] [] h (fun r h' => r = none ∧ FG h h' ∧ GI h' f (T ++ [(rw f b n, dep)]) rs rd dt at' ht hf) := by
  have hcl := hc.le
  obtain ⟨o1, o2, o3, o4⟩ := ho
  obtain ⟨n1, n2, n3, n4, n5, n6⟩ := hne
  have hk := bkt_lt (rw f b n)
  have q1 := o1.ne (k := 25) (by omega); have q2 := o2.ne (k := 25) (by omega); have q3 := o3.ne (k := 25) (by omega); have q4 := o4.ne (k := 25) (by omega)
  have r1 := o1.ne (k := 26) (by omega); have r2 := o2.ne (k := 26) (by omega); have r3 := o3.ne (k := 26) (by omega); have r4 := o4.ne (k := 26) (by omega)
  have s1 := o1.ne (k := 27) (by omega); have s2 := o2.ne (k := 27) (by omega); have s3 := o3.ne (k := 27) (by omega); have s4 := o4.ne (k := 27) (by omega)
  refine Rq_aload_n dX3_addNode_29 rfl ?_
  refine Rq_get dX3_addNode_30 flX3_11 h1 rfl ?_
  refine Rq_iload_n dX3_addNode_33 rfl ?_
  refine Rq_aload_n dX3_addNode_34 rfl ?_
  refine Rq_get dX3_addNode_35 flX3_18 h1 rfl ?_
  refine Rq_aload_n dX3_addNode_38 rfl ?_
  refine Rq_get dX3_addNode_39 flX3_36 h1 rfl ?_
  refine Rq_bipush (16) dX3_addNode_42 (by decide) ?_
  refine Rq_imul dX3_addNode_44 ?_
  rw [show (16 : Int32) = nI 16 from rfl, pk_mul, Nat.mul_comm]
  refine Rq_iload_n dX3_addNode_45 rfl ?_
  refine Rq_acopy b (16 * T.length) n dX3_addNode_46 clX3_139 ac_1 ac_2 ac_3 h2 g1 (by decide) (by omega) rfl rfl rfl (by omega) (by omega) rfl ?_
  generalize hX : va_cpy f NR b (16 * T.length) n = NR'
  have a1 := hNs (e' := aI (16 * cap) NR') q1 h1
  have a2 := hNs (e' := aI (16 * cap) NR') r1 h2
  have a3 := hNs (e' := aI (16 * cap) NR') s1 h3
  have a4 := hS (aI (16 * cap) NR') g1
  have a5 := hNs (e' := aI (16 * cap) NR') n1 g2
  have a6 := hNs (e' := aI (16 * cap) NR') n2 g3
  have a7 := hNs (e' := aI (16 * cap) NR') n3 g4
  have a8 : FG h (h.set nr (aI (16 * cap) NR')) := FG.set (by rcases o1 with o | o <;> omega)
  have a9 := lb.set (e' := aI (16 * cap) NR') g1 rfl
  generalize h.set nr (aI (16 * cap) NR') = ha at a1 a2 a3 a4 a5 a6 a7 a8 a9 ⊢
  refine Rq_aload_n dX3_addNode_49 rfl ?_
  refine Rq_get dX3_addNode_50 flX3_21 a1 rfl ?_
  refine Rq_aload_n dX3_addNode_53 rfl ?_
  refine Rq_get dX3_addNode_54 flX3_36 a1 rfl ?_
  refine Rq_iload_n dX3_addNode_57 rfl ?_
  refine Rq_iast T.length dX3_addNode_58 a5 hT (by omega) rfl ?_
  have b1 := hNs (e' := aI cap (upd NZ T.length (nI n))) q2 a1
  have b2 := hNs (e' := aI cap (upd NZ T.length (nI n))) r2 a2
  have b3 := hNs (e' := aI cap (upd NZ T.length (nI n))) s2 a3
  have b4 := hNs (e' := aI cap (upd NZ T.length (nI n))) (Ne.symm n1) a4
  have b5 := hS (aI cap (upd NZ T.length (nI n))) a5
  have b6 := hNs (e' := aI cap (upd NZ T.length (nI n))) n4 a6
  have b7 := hNs (e' := aI cap (upd NZ T.length (nI n))) n5 a7
  have b8 : FG h (ha.set nz (aI cap (upd NZ T.length (nI n)))) := a8.trans (FG.set (by rcases o2 with o | o <;> omega))
  have b9 := a9.set (e' := aI cap (upd NZ T.length (nI n))) a5 rfl
  generalize ha.set nz (aI cap (upd NZ T.length (nI n))) = hb1 at b1 b2 b3 b4 b5 b6 b7 b8 b9 ⊢
  refine Rq_aload_n dX3_addNode_59 rfl ?_
  refine Rq_get dX3_addNode_60 flX3_24 b1 rfl ?_
  refine Rq_aload_n dX3_addNode_63 rfl ?_
  refine Rq_get dX3_addNode_64 flX3_36 b1 rfl ?_
  refine Rq_iload dX3_addNode_67 rfl ?_
  refine Rq_iast T.length dX3_addNode_69 b6 hT (by omega) rfl ?_
  have c1 := hNs (e' := aI cap (upd ND T.length dep)) q3 b1
  have c2 := hNs (e' := aI cap (upd ND T.length dep)) r3 b2
  have c3 := hNs (e' := aI cap (upd ND T.length dep)) s3 b3
  have c4 := hNs (e' := aI cap (upd ND T.length dep)) (Ne.symm n2) b4
  have c5 := hNs (e' := aI cap (upd ND T.length dep)) (Ne.symm n4) b5
  have c6 := hS (aI cap (upd ND T.length dep)) b6
  have c7 := hNs (e' := aI cap (upd ND T.length dep)) n6 b7
  have c8 : FG h (hb1.set nd (aI cap (upd ND T.length dep))) := b8.trans (FG.set (by rcases o3 with o | o <;> omega))
  have c9 := b9.set (e' := aI cap (upd ND T.length dep)) b6 rfl
  generalize hb1.set nd (aI cap (upd ND T.length dep)) = hc1 at c1 c2 c3 c4 c5 c6 c7 c8 c9 ⊢
  refine Rq_aload_n dX3_addNode_70 rfl ?_
  refine Rq_get dX3_addNode_71 flX3_27 c1 rfl ?_
  refine Rq_aload_n dX3_addNode_74 rfl ?_
  refine Rq_get dX3_addNode_75 flX3_36 c1 rfl ?_
  refine Rq_aload_n dX3_addNode_78 rfl ?_
  refine Rq_get dX3_addNode_79 flX3_15 c1 rfl ?_
  refine Rq_iload_n dX3_addNode_82 rfl ?_
  refine Rq_iald (bkt (rw f b n)) dX3_addNode_83 c3 hk (by decide) rfl ?_
  refine Rq_iast T.length dX3_addNode_84 c7 hT (by omega) rfl ?_
  have d1 := hNs (e' := aI cap (upd NN T.length (heads (bkt (rw f b n))))) q4 c1
  have d2 := hNs (e' := aI cap (upd NN T.length (heads (bkt (rw f b n))))) r4 c2
  have d3 := hNs (e' := aI cap (upd NN T.length (heads (bkt (rw f b n))))) s4 c3
  have d4 := hNs (e' := aI cap (upd NN T.length (heads (bkt (rw f b n))))) (Ne.symm n3) c4
  have d5 := hNs (e' := aI cap (upd NN T.length (heads (bkt (rw f b n))))) (Ne.symm n5) c5
  have d6 := hNs (e' := aI cap (upd NN T.length (heads (bkt (rw f b n))))) (Ne.symm n6) c6
  have d7 := hS (aI cap (upd NN T.length (heads (bkt (rw f b n))))) c7
  have d8 : FG h (hc1.set nn (aI cap (upd NN T.length (heads (bkt (rw f b n)))))) := c8.trans (FG.set (by rcases o4 with o | o <;> omega))
  have d9 := c9.set (e' := aI cap (upd NN T.length (heads (bkt (rw f b n))))) c7 rfl
  generalize hc1.set nn (aI cap (upd NN T.length (heads (bkt (rw f b n))))) = hd1 at d1 d2 d3 d4 d5 d6 d7 d8 d9 ⊢
  refine Rq_aload_n dX3_addNode_85 rfl ?_
  refine Rq_get dX3_addNode_86 flX3_15 d1 rfl ?_
  refine Rq_iload_n dX3_addNode_89 rfl ?_
  refine Rq_aload_n dX3_addNode_90 rfl ?_
  refine Rq_get dX3_addNode_91 flX3_36 d1 rfl ?_
  refine Rq_iast (bkt (rw f b n)) dX3_addNode_94 d3 hk (by decide) rfl ?_
  have e1 := hNs (e' := aI 64 (upd heads (bkt (rw f b n)) (nI T.length))) (by decide : (27 : Nat) ≠ 25) d1
  refine Rq_aload_n dX3_addNode_95 rfl ?_
  refine Rq_dup dX3_addNode_96 rfl ?_
  refine Rq_get dX3_addNode_97 flX3_36 e1 rfl ?_
  refine Rq_iconst (1) dX3_addNode_100 (by decide) ?_
  refine Rq_iadd dX3_addNode_101 ?_
  refine Rq_put [_, _, _, _, _, _, _, _, _, _, _, _, _] dX3_addNode_102 fpX3_36 e1 rfl (okv_i _) rfl ?_
  rw [nI_1]
  refine Rq_vret dX3_addNode_105 rfl ?_
  have z : ∀ x : va_E, ∀ k, k ≠ 25 → k ≠ 27 → ((hd1.set 27 (aI 64 (upd heads (bkt (rw f b n)) (nI T.length)))).set 25 x)[k]? = hd1[k]? := fun x k z1 z2 => by rw [hN (Ne.symm z1), hN (Ne.symm z2)]
  refine ⟨rfl, d8.trans ((FG.set (by omega)).trans (FG.set (by omega))), nr, nz, nd, nn, cap, upd heads (bkt (rw f b n)) (nI T.length), ?_, ?_, ?_, ?_, ?_, hc, ⟨o1, o2, o3, o4⟩, ⟨n1, n2, n3, n4, n5, n6⟩, ?_⟩
  · rw [List.length_append, List.length_singleton]; exact hS _ e1
  · rw [z _ 26 (by decide) (by decide)]; exact d2
  · exact hNs (by decide) (hS _ d3)
  · intro b' hb'
    rw [List.length_append, List.length_singleton]
    unfold lastI
    have : bkT (T ++ [(rw f b n, dep)]) T.length = bkt (rw f b n) := by unfold bkT; rw [getD_app_eq]
    rw [this, lastI_app (Nat.le_refl _)]
    by_cases c : bkt (rw f b n) = b'
    · subst c; rw [pk_us, if_pos rfl]
    · rw [pk_un (Ne.symm c), if_neg c]; exact hh b' hb'
  · refine ⟨NR', upd NZ T.length (nI n), upd ND T.length dep, upd NN T.length (heads (bkt (rw f b n))), by rw [z _ _ q1 s1]; exact d4, by rw [z _ _ q2 s2]; exact d5, by rw [z _ _ q3 s3]; exact d6, by rw [z _ _ q4 s4]; exact d7, by rw [List.length_append, List.length_singleton]; omega, fun i hi => ?_⟩
    rw [List.length_append, List.length_singleton] at hi
    by_cases c : i = T.length
    · subst c
      rw [getD_app_eq, rw_len, pk_us, pk_us, pk_us]
      refine ⟨hn, rfl, ?_, rfl, ?_⟩
      · rw [← hX]
        unfold rw
        exact List.map_congr_left (fun j hj => by rw [pk_cpy_in (by omega) (by have := List.mem_range.mp hj; omega), show 16 * T.length + j - 16 * T.length = j by omega])
      · rw [hh _ hk, lastI_app (Nat.le_refl _)]
        unfold bkT
        rw [getD_app_eq]
    · have hi' : i < T.length := by omega
      obtain ⟨k1, k2, k3, k4, k5⟩ := g6 i hi'
      rw [getD_app_lt hi', pk_un c, pk_un c, pk_un c]
      refine ⟨k1, k2, ?_, k4, ?_⟩
      · rw [← k3, rw_len]
        refine rw_cong (fun j hj => ?_)
        rw [← hX, pk_cpy_out (Or.inl (by omega))]
      · rw [k5, bkT_app hi', lastI_app (by omega)]
  · exact (d9.set (e' := aI 64 (upd heads (bkt (rw f b n)) (nI T.length))) d3 rfl).set e1 rfl
theorem sp_addNode (d : Nat) {h : Hp} {f : Nat → Int32} {T : List Nd} {b n : Nat} {dep : Int32} (g : GI h f T rs rd dt at' ht hf) (hT : T.length < 1024) (hn : n ≤ 16) (hb : b + n ≤ 176) :
    Mq mX3_addNode (d + 3) [.ref 25, .int (nI (bkt (rw f b n))), .int (nI b), .int (nI n), .int dep] h (fun r h' => r = none ∧ FG h h' ∧ GI h' f (T ++ [(rw f b n, dep)]) rs rd dt at' ht hf) := by
  obtain ⟨nr, nz, nd, nn, cap, heads, h1, h2, h3, hh, ⟨NR, NZ, ND, NN, g1, g2, g3, g4, g5, g6⟩, hc, ⟨o1, o2, o3, o4⟩, hne, lb⟩ := g
  have hcl := hc.le
  refine Mq_of [_, _, _, _, _] (by decide +kernel) rfl rfl ?_
  by_cases c : T.length < cap
  · refine Rq_aload_n dX3_addNode_0 rfl ?_
    refine Rq_get dX3_addNode_1 flX3_36 h1 rfl ?_
    refine Rq_aload_n dX3_addNode_4 rfl ?_
    refine Rq_get dX3_addNode_5 flX3_21 h1 rfl ?_
    refine Rq_alenI dX3_addNode_8 g2 ?_
    refine Rq_icmp_lt_t 16 dX3_addNode_9 (by decide) (nI_lt c (by omega)) ?_
    refine Rq_aload_n dX3_addNode_16 rfl ?_
    refine Rq_get dX3_addNode_17 flX3_36 h1 rfl ?_
    refine Rq_aload_n dX3_addNode_20 rfl ?_
    refine Rq_get dX3_addNode_21 flX3_21 h1 rfl ?_
    refine Rq_alenI dX3_addNode_24 g2 ?_
    refine Rq_icmp_lt_t 29 dX3_addNode_25 (by decide) (nI_lt c (by omega)) ?_
    exact add_29 (d + 2) h1 h2 h3 hh g1 g2 g3 g4 g6 hc ⟨o1, o2, o3, o4⟩ hne lb c hn hb
  · have ec : T.length = cap := by omega
    refine Rq_aload_n dX3_addNode_0 rfl ?_
    refine Rq_get dX3_addNode_1 flX3_36 h1 rfl ?_
    refine Rq_aload_n dX3_addNode_4 rfl ?_
    refine Rq_get dX3_addNode_5 flX3_21 h1 rfl ?_
    refine Rq_alenI dX3_addNode_8 g2 ?_
    refine Rq_icmp_lt_f 16 dX3_addNode_9 (by decide) (nI_nlt (by omega) (by omega)) ?_
    refine Rq_aload_n dX3_addNode_12 rfl ?_
    refine Rq_callVq [] dX3_addNode_13 clX3_136 rfl h1 (sp_makeRoom d h1 g1 g2 g3 g4 o1 o2 o3 o4 hc (by omega) lb) rfl rfl rfl (fun rv h4 hq => ?_)
    obtain ⟨rfl, F, k26, k27, lb', a, ha, k1, k2, k3, k4, k5⟩ := hq
    have hc' : capOK (2 * cap) := by
      rcases hc with e | e | e | e | e
      · exact Or.inr (Or.inl (by omega))
      · exact Or.inr (Or.inr (Or.inl (by omega)))
      · exact Or.inr (Or.inr (Or.inr (Or.inl (by omega))))
      · exact Or.inr (Or.inr (Or.inr (Or.inr (by omega))))
      · omega
    refine Rq_aload_n dX3_addNode_16 rfl ?_
    refine Rq_get dX3_addNode_17 flX3_36 k1 rfl ?_
    refine Rq_aload_n dX3_addNode_20 rfl ?_
    refine Rq_get dX3_addNode_21 flX3_21 k1 rfl ?_
    refine Rq_alenI dX3_addNode_24 k3 ?_
    refine Rq_icmp_lt_t 29 dX3_addNode_25 (by decide) (nI_lt (b := 2 * cap) (by omega) (by omega)) ?_
    refine (add_29 (d + 2) (T := T) k1 (k26.trans h2) (k27.trans h3) hh k2 k3 k4 k5 (fun i hi => ?_) hc' ⟨Or.inr ha, Or.inr (by omega), Or.inr (by omega), Or.inr (by omega)⟩ ⟨by omega, by omega, by omega, by omega, by omega, by omega⟩ lb' (by omega) hn hb).mono ?_
    · obtain ⟨z1, z2, z3, z4, z5⟩ := g6 i hi
      refine ⟨z1, ?_, ?_, ?_, ?_⟩
      · rw [pk_cpy_in (by omega) (by omega), Nat.zero_add, Nat.sub_zero]; exact z2
      · rw [← z3, rw_len]
        exact rw_cong (fun j hj => by rw [pk_cpy_in (by omega) (by omega), Nat.zero_add, Nat.sub_zero])
      · rw [pk_cpy_in (by omega) (by omega), Nat.zero_add, Nat.sub_zero]; exact z4
      · rw [pk_cpy_in (by omega) (by omega), Nat.zero_add, Nat.sub_zero]; exact z5
    · rintro r h' ⟨y1, y2, y3⟩
      exact ⟨y1, F.trans y2, y3⟩
end AN
