/-! Graph.compile and what is asked of the root -/
/-- the graph of the root row rt lies in the cells, with the table and numbers s and the root's depth v -/
def GH (h : Hp) (rt : List Int32) (v : Int32) (s : Es) : Prop := rt.length ≤ 16 ∧ ∃ f, GIs h f (nI rt.length) v s ∧ rw f 0 rt.length = rt
def GX (h : Hp) : Prop := ∃ (f heads : Nat → Int32) (ct rs rd dt at' ht hf : Int32) (nr nz nd nn cap : Nat) (NR NZ ND NN : Nat → Int32), h[25]? = some (obG nr nz nd nn ct rs rd dt at' ht hf) ∧ h[26]? = some (aI 176 f) ∧ h[27]? = some (aI 64 heads) ∧ (h[nr]? = some (aI (16 * cap) NR) ∧ h[nz]? = some (aI cap NZ) ∧ h[nd]? = some (aI cap ND) ∧ h[nn]? = some (aI cap NN)) ∧ capOK cap ∧ (own nr ∧ own nz ∧ own nd ∧ own nn) ∧ (nr ≠ nz ∧ nr ≠ nd ∧ nr ≠ nn ∧ nz ≠ nd ∧ nz ≠ nn ∧ nd ≠ nn) ∧ LB h cap
theorem GH.x {h : Hp} {rt : List Int32} {v : Int32} {s : Es} (g : GH h rt v s) : GX h := by
  obtain ⟨-, f, ⟨nr, nz, nd, nn, cap, heads, h1, h2, h3, hh, ⟨NR, NZ, ND, NN, g1, g2, g3, g4, g5⟩, hc, ho, hne, lb⟩, -⟩ := g
  exact ⟨f, heads, _, _, _, _, _, _, _, nr, nz, nd, nn, cap, NR, NZ, ND, NN, h1, h2, h3, ⟨g1, g2, g3, g4⟩, hc, ho, hne, lb⟩
def rootC (cs : Nat → Int32) (n : Nat) (as : Int32) : List Int32 := ((List.range n).map cs).foldl (addR as) []
theorem rootC_s (cs : Nat → Int32) (n : Nat) (as : Int32) : rootC cs (n + 1) as = addR as (rootC cs n as) (cs n) := by simp [rootC, List.range_succ, List.foldl_append]
theorem rootC_len (cs : Nat → Int32) (as : Int32) : ∀ n, (rootC cs n as).length ≤ n
  | 0 => Nat.le_refl _
  | n + 1 => by
    rw [rootC_s]
    have h1 := addR_len as (rootC cs n as) (cs n)
    have h2 := rootC_len cs as n
    omega
theorem comp_loop (d : Nat) {cs : Nat → Int32} {n : Nat} {as : Int32} {wa : Nat} (hn : n ≤ 16) (rk : Rk 11 (rootC cs n as)) (hT : (exC 11 (rootC cs n as) ([], 0, 0, 0, 0)).2.1.length ≤ 1024) (h0 : Hp) : ∀ (k i : Nat) (h : Hp) (f : Nat → Int32) (rd : Int32), i + k = n → GIs h f (nI (rootC cs i as).length) rd ([], 0, 0, 0, 0) → rw f 0 (rootC cs i as).length = rootC cs i as → FG h0 h → h[1]? = some (obS 2 (nI n) as wa) → h[2]? = some (aI 16 cs) →
    Rq mX3_compile (d + 27) 40 [.ref 25, .ref 1, .int (nI i)] [] h (fun r h' => r = none ∧ FG h0 h' ∧ GH h' (rootC cs n as) (exC 11 (rootC cs n as) ([], 0, 0, 0, 0)).1 (exC 11 (rootC cs n as) ([], 0, 0, 0, 0)).2) := by
  intro k
  induction k with
  | zero =>
    intro i h f rd hi g hr F0 s1 s2
    have e : i = n := by omega
    subst e
    obtain ⟨nr, nz, nd, nn, h1, h2⟩ := GI.cell g
    have hrl := rootC_len cs as i
    have ex := sp_explore d 11 0 rfl (rootC cs i as) ([], 0, 0, 0, 0) h f (nI (rootC cs i as).length) rd rk g hr (by omega) hT
    refine Rq_iload_n dX3_compile_40 rfl ?_
    refine Rq_aload_n dX3_compile_41 rfl ?_
    refine Rq_get dX3_compile_42 flX3_56 s1 rfl ?_
    refine Rq_icmp_ge_t 76 dX3_compile_45 (by decide) (nI_le (Nat.le_refl _) (by omega)) ?_
    refine Rq_aload_n dX3_compile_76 rfl ?_
    refine Rq_aload_n dX3_compile_77 rfl ?_
    refine Rq_iconst (0) dX3_compile_78 (by decide) ?_
    refine Rq_aload_n dX3_compile_79 rfl ?_
    refine Rq_get dX3_compile_80 flX3_53 h1 rfl ?_
    refine Rq_callVq [_, _] dX3_compile_83 clX3_72 rfl h1 ex rfl rfl rfl (fun rv h3 hq => ?_)
    obtain ⟨rfl, F3, f3, g3, q3⟩ := hq
    obtain ⟨nr3, nz3, nd3, nn3, j1, j2⟩ := GI.cell g3
    refine Rq_put [_, _, _, _, _, _, _, _, _, _, _, _, _] dX3_compile_86 fpX3_76 j1 rfl (okv_i _) rfl ?_
    refine Rq_vret dX3_compile_89 rfl ?_
    obtain ⟨g4, F4⟩ := GI.nums (rs' := nI (rootC cs i as).length) (rd' := (exC 11 (rootC cs i as) ([], 0, 0, 0, 0)).1) (dt' := (exC 11 (rootC cs i as) ([], 0, 0, 0, 0)).2.2.1) (at'' := (exC 11 (rootC cs i as) ([], 0, 0, 0, 0)).2.2.2.1) (ht' := (exC 11 (rootC cs i as) ([], 0, 0, 0, 0)).2.2.2.2.1) (hf' := (exC 11 (rootC cs i as) ([], 0, 0, 0, 0)).2.2.2.2.2) g3 j1
    refine ⟨rfl, (F0.trans F3).trans F4, by omega, f3, g4, ?_⟩
    rw [← hr, rw_len]
    exact rw_cong (fun j hj => q3 _ (by omega))
  | succ k ih =>
    intro i h f rd hi g hr F0 s1 s2
    obtain ⟨nr, nz, nd, nn, h1, h2⟩ := GI.cell g
    have hrl := rootC_len cs as i
    have sa := sp_addR (d + 25) (L := 0) (n := (rootC cs i as).length) (c := cs i) (t := as) h1 h2 (by decide) (by omega)
    rw [show 16 * 0 = 0 from rfl, hr, ← rootC_s] at sa
    refine Rq_iload_n dX3_compile_40 rfl ?_
    refine Rq_aload_n dX3_compile_41 rfl ?_
    refine Rq_get dX3_compile_42 flX3_56 s1 rfl ?_
    refine Rq_icmp_ge_f 76 dX3_compile_45 (by decide) (nI_ge (by omega) (by omega)) ?_
    refine Rq_aload_n dX3_compile_48 rfl ?_
    refine Rq_aload_n dX3_compile_49 rfl ?_
    refine Rq_iconst (0) dX3_compile_50 (by decide) ?_
    refine Rq_aload_n dX3_compile_51 rfl ?_
    refine Rq_get dX3_compile_52 flX3_53 h1 rfl ?_
    refine Rq_aload_n dX3_compile_55 rfl ?_
    refine Rq_iload_n dX3_compile_56 rfl ?_
    refine Rq_callV [_] dX3_compile_57 clX3_61 rfl s1 (sp_clauseAt (d + 25) s1 s2 (by omega) hn) rfl rfl rfl ?_
    refine Rq_aload_n dX3_compile_60 rfl ?_
    refine Rq_get dX3_compile_61 flX3_65 s1 rfl ?_
    refine Rq_callVq [_, _, _, _] dX3_compile_64 clX3_68 rfl h1 sa rfl rfl rfl (fun rv h3 hq => ?_)
    obtain ⟨rfl, f3, rfl, q1, q2⟩ := hq
    obtain ⟨g3, F3⟩ := GI.rows (f' := f3) g
    obtain ⟨nr3, nz3, nd3, nn3, j1, j2⟩ := GI.cell g3
    refine Rq_put [_, _, _, _, _, _, _, _, _, _, _, _, _] dX3_compile_67 fpX3_53 j1 rfl (okv_i _) rfl ?_
    obtain ⟨g4, F4⟩ := GI.nums (rs' := nI (rootC cs (i + 1) as).length) (rd' := rd) (dt' := 0) (at'' := 0) (ht' := 0) (hf' := 0) g3 j1
    refine Rq_iinc [_, _, _] (1) dX3_compile_70 rfl (by decide) rfl rfl rfl ?_
    refine Rq_goto 40 dX3_compile_73 (by decide) ?_
    rw [nI_1]
    have F5 := (F0.trans F3).trans F4
    exact ih (i + 1) _ f3 rd (by omega) g4 q1 F5 ((F3.trans F4).at (by decide) (by decide) s1) ((F3.trans F4).at (by decide) (by decide) s2)
theorem sp_compile (d : Nat) {h : Hp} {cs : Nat → Int32} {n : Nat} {as : Int32} {wa : Nat} (hn : n ≤ 16) (rk : Rk 11 (rootC cs n as)) (hT : (exC 11 (rootC cs n as) ([], 0, 0, 0, 0)).2.1.length ≤ 1024) (g : GX h) (s1 : h[1]? = some (obS 2 (nI n) as wa)) (s2 : h[2]? = some (aI 16 cs)) :
    Mq mX3_compile (d + 27) [.ref 25, .ref 1] h (fun r h' => r = none ∧ FG h h' ∧ GH h' (rootC cs n as) (exC 11 (rootC cs n as) ([], 0, 0, 0, 0)).1 (exC 11 (rootC cs n as) ([], 0, 0, 0, 0)).2) := by
  obtain ⟨f, heads, ct, rs, rd, dt, at', ht, hf, nr, nz, nd, nn, cap, NR, NZ, ND, NN, h1, h2, h3, ⟨g1, g2, g3, g4⟩, hc, ⟨o1, o2, o3, o4⟩, hne, lb⟩ := g
  refine Mq_of [_, _, _] (by decide +kernel) rfl rfl ?_
  refine Rq_aload_n dX3_compile_0 rfl ?_
  refine Rq_get dX3_compile_1 flX3_15 h1 rfl ?_
  refine Rq_iconst (-1) dX3_compile_4 (by decide) ?_
  refine Rq_callSv [_, _] dX3_compile_5 clX3_30 (sp_fill (d + 26) (-1) h3 (by decide)) rfl rfl rfl ?_
  have a1 := hNs (e' := aI 64 (fillf heads 64 (-1))) (by decide : (27 : Nat) ≠ 25) h1
  refine Rq_aload_n dX3_compile_8 rfl ?_
  refine Rq_iconst (0) dX3_compile_9 (by decide) ?_
  refine Rq_put [_, _, _, _, _, _, _, _, _, _, _, _, _] dX3_compile_10 fpX3_36 a1 rfl (okv_i _) rfl ?_
  have a2 := hS (obG nr nz nd nn 0 rs rd dt at' ht hf) a1
  refine Rq_aload_n dX3_compile_13 rfl ?_
  refine Rq_iconst (0) dX3_compile_14 (by decide) ?_
  refine Rq_put [_, _, _, _, _, _, _, _, _, _, _, _, _] dX3_compile_15 fpX3_40 a2 rfl (okv_i _) rfl ?_
  have a3 := hS (obG nr nz nd nn 0 rs rd 0 at' ht hf) a2
  refine Rq_aload_n dX3_compile_18 rfl ?_
  refine Rq_iconst (0) dX3_compile_19 (by decide) ?_
  refine Rq_put [_, _, _, _, _, _, _, _, _, _, _, _, _] dX3_compile_20 fpX3_43 a3 rfl (okv_i _) rfl ?_
  have a4 := hS (obG nr nz nd nn 0 rs rd 0 0 ht hf) a3
  refine Rq_aload_n dX3_compile_23 rfl ?_
  refine Rq_iconst (0) dX3_compile_24 (by decide) ?_
  refine Rq_put [_, _, _, _, _, _, _, _, _, _, _, _, _] dX3_compile_25 fpX3_46 a4 rfl okv_0 rfl ?_
  have a5 := hS (obG nr nz nd nn 0 rs rd 0 0 0 hf) a4
  refine Rq_aload_n dX3_compile_28 rfl ?_
  refine Rq_iconst (0) dX3_compile_29 (by decide) ?_
  refine Rq_put [_, _, _, _, _, _, _, _, _, _, _, _, _] dX3_compile_30 fpX3_50 a5 rfl okv_0 rfl ?_
  have a6 := hS (obG nr nz nd nn 0 rs rd 0 0 0 0) a5
  refine Rq_aload_n dX3_compile_33 rfl ?_
  refine Rq_iconst (0) dX3_compile_34 (by decide) ?_
  refine Rq_put [_, _, _, _, _, _, _, _, _, _, _, _, _] dX3_compile_35 fpX3_53 a6 rfl (okv_i _) rfl ?_
  refine Rq_iconst (0) dX3_compile_38 (by decide) ?_
  refine Rq_istore_n [_, _, _] dX3_compile_39 rfl rfl rfl ?_
  simp only [List.set_set]
  have k1 := hS (obG nr nz nd nn 0 0 rd 0 0 0 0) a1
  have r1 := o1.ne (k := 25) (by omega); have r2 := o2.ne (k := 25) (by omega); have r3 := o3.ne (k := 25) (by omega); have r4 := o4.ne (k := 25) (by omega)
  have t1 := o1.ne (k := 27) (by omega); have t2 := o2.ne (k := 27) (by omega); have t3 := o3.ne (k := 27) (by omega); have t4 := o4.ne (k := 27) (by omega)
  have F1 : FG h ((h.set 27 (aI 64 (fillf heads 64 (-1)))).set 25 (obG nr nz nd nn 0 0 rd 0 0 0 0)) := (FG.set (by omega)).trans (FG.set (by omega))
  refine comp_loop d hn rk hT h n 0 _ f rd (by omega) ?_ rfl F1 (F1.at (by decide) (by decide) s1) (F1.at (by decide) (by decide) s2)
  refine ⟨nr, nz, nd, nn, cap, fillf heads 64 (-1), k1, hNs (by decide) (hNs (by decide) h2), hNs (by decide) (hS _ h3), fun b hb => ?_, ⟨NR, NZ, ND, NN, hNs (Ne.symm r1) (hNs (Ne.symm t1) g1), hNs (Ne.symm r2) (hNs (Ne.symm t2) g2), hNs (Ne.symm r3) (hNs (Ne.symm t3) g3), hNs (Ne.symm r4) (hNs (Ne.symm t4) g4), Nat.zero_le _, fun i hi => absurd hi (Nat.not_lt_zero i)⟩, hc, ⟨o1, o2, o3, o4⟩, hne, (lb.set (e' := aI 64 (fillf heads 64 (-1))) h3 rfl).set a1 rfl⟩
  simp only [fillf]
  rw [if_pos hb]
  rfl
def ntI (s : Es) : Int32 := s.2.1 + s.2.2.1 + (if s.2.2.2.1 = 0 then 0 else 1) + (if s.2.2.2.2 = 0 then 0 else 1)
theorem sp_nodeTotal (d : Nat) {h : Hp} {rt : List Int32} {v : Int32} {s : Es} (g : GH h rt v s) : Mx mX3_nodeTotal d [.ref 25] h (some (.int (ntI s))) h := by
  obtain ⟨-, f, g, -⟩ := g
  obtain ⟨nr, nz, nd, nn, h1, h2⟩ := GI.cell g
  refine Mx_of [_] (by decide +kernel) rfl rfl ?_
  unfold ntI
  by_cases c1 : s.2.2.2.1 = 0
  · rw [if_pos c1]
    by_cases c2 : s.2.2.2.2 = 0
    · rw [if_pos c2]
      refine Rx_aload_n dX3_nodeTotal_0 rfl ?_
      refine Rx_get dX3_nodeTotal_1 flX3_40 h1 rfl ?_
      refine Rx_aload_n dX3_nodeTotal_4 rfl ?_
      refine Rx_get dX3_nodeTotal_5 flX3_43 h1 rfl ?_
      refine Rx_iadd dX3_nodeTotal_8 ?_
      refine Rx_aload_n dX3_nodeTotal_9 rfl ?_
      refine Rx_get dX3_nodeTotal_10 flX3_46 h1 rfl ?_
      refine Rx_if_eq_t 20 dX3_nodeTotal_13 (by decide) c1 ?_
      refine Rx_iconst (0) dX3_nodeTotal_20 (by decide) ?_
      refine Rx_iadd dX3_nodeTotal_21 ?_
      refine Rx_aload_n dX3_nodeTotal_22 rfl ?_
      refine Rx_get dX3_nodeTotal_23 flX3_50 h1 rfl ?_
      refine Rx_if_eq_t 33 dX3_nodeTotal_26 (by decide) c2 ?_
      refine Rx_iconst (0) dX3_nodeTotal_33 (by decide) ?_
      refine Rx_iadd dX3_nodeTotal_34 ?_
      exact Rx_iret dX3_nodeTotal_35 rfl
    · rw [if_neg c2]
      refine Rx_aload_n dX3_nodeTotal_0 rfl ?_
      refine Rx_get dX3_nodeTotal_1 flX3_40 h1 rfl ?_
      refine Rx_aload_n dX3_nodeTotal_4 rfl ?_
      refine Rx_get dX3_nodeTotal_5 flX3_43 h1 rfl ?_
      refine Rx_iadd dX3_nodeTotal_8 ?_
      refine Rx_aload_n dX3_nodeTotal_9 rfl ?_
      refine Rx_get dX3_nodeTotal_10 flX3_46 h1 rfl ?_
      refine Rx_if_eq_t 20 dX3_nodeTotal_13 (by decide) c1 ?_
      refine Rx_iconst (0) dX3_nodeTotal_20 (by decide) ?_
      refine Rx_iadd dX3_nodeTotal_21 ?_
      refine Rx_aload_n dX3_nodeTotal_22 rfl ?_
      refine Rx_get dX3_nodeTotal_23 flX3_50 h1 rfl ?_
      refine Rx_if_eq_f 33 dX3_nodeTotal_26 (by decide) c2 ?_
      refine Rx_iconst (1) dX3_nodeTotal_29 (by decide) ?_
      refine Rx_goto 34 dX3_nodeTotal_30 (by decide) ?_
      refine Rx_iadd dX3_nodeTotal_34 ?_
      exact Rx_iret dX3_nodeTotal_35 rfl
  · rw [if_neg c1]
    by_cases c2 : s.2.2.2.2 = 0
    · rw [if_pos c2]
      refine Rx_aload_n dX3_nodeTotal_0 rfl ?_
      refine Rx_get dX3_nodeTotal_1 flX3_40 h1 rfl ?_
      refine Rx_aload_n dX3_nodeTotal_4 rfl ?_
      refine Rx_get dX3_nodeTotal_5 flX3_43 h1 rfl ?_
      refine Rx_iadd dX3_nodeTotal_8 ?_
      refine Rx_aload_n dX3_nodeTotal_9 rfl ?_
      refine Rx_get dX3_nodeTotal_10 flX3_46 h1 rfl ?_
      refine Rx_if_eq_f 20 dX3_nodeTotal_13 (by decide) c1 ?_
      refine Rx_iconst (1) dX3_nodeTotal_16 (by decide) ?_
      refine Rx_goto 21 dX3_nodeTotal_17 (by decide) ?_
      refine Rx_iadd dX3_nodeTotal_21 ?_
      refine Rx_aload_n dX3_nodeTotal_22 rfl ?_
      refine Rx_get dX3_nodeTotal_23 flX3_50 h1 rfl ?_
      refine Rx_if_eq_t 33 dX3_nodeTotal_26 (by decide) c2 ?_
      refine Rx_iconst (0) dX3_nodeTotal_33 (by decide) ?_
      refine Rx_iadd dX3_nodeTotal_34 ?_
      exact Rx_iret dX3_nodeTotal_35 rfl
    · rw [if_neg c2]
      refine Rx_aload_n dX3_nodeTotal_0 rfl ?_
      refine Rx_get dX3_nodeTotal_1 flX3_40 h1 rfl ?_
      refine Rx_aload_n dX3_nodeTotal_4 rfl ?_
      refine Rx_get dX3_nodeTotal_5 flX3_43 h1 rfl ?_
      refine Rx_iadd dX3_nodeTotal_8 ?_
      refine Rx_aload_n dX3_nodeTotal_9 rfl ?_
      refine Rx_get dX3_nodeTotal_10 flX3_46 h1 rfl ?_
      refine Rx_if_eq_f 20 dX3_nodeTotal_13 (by decide) c1 ?_
      refine Rx_iconst (1) dX3_nodeTotal_16 (by decide) ?_
      refine Rx_goto 21 dX3_nodeTotal_17 (by decide) ?_
      refine Rx_iadd dX3_nodeTotal_21 ?_
      refine Rx_aload_n dX3_nodeTotal_22 rfl ?_
      refine Rx_get dX3_nodeTotal_23 flX3_50 h1 rfl ?_
      refine Rx_if_eq_f 33 dX3_nodeTotal_26 (by decide) c2 ?_
      refine Rx_iconst (1) dX3_nodeTotal_29 (by decide) ?_
      refine Rx_goto 34 dX3_nodeTotal_30 (by decide) ?_
      refine Rx_iadd dX3_nodeTotal_34 ?_
      exact Rx_iret dX3_nodeTotal_35 rfl
def ptS (l : List Int32) (a : Int32 × Int32) (c : Int32) : Int32 × Int32 := if fVars c &&& a.2 = 0 then (a.1 + 1, a.2 ||| cvr fVars l 10 (fVars c)) else a
def ptC (l : List Int32) : Int32 := if l.length = 0 then 0 else if l.getD 0 0 = 0 then 0 else (l.foldl (ptS l) (0, 0)).1
theorem parts_loop (d : Nat) {h : Hp} {l : List Int32} {f : Nat → Int32} {nr nz nd nn : Nat} {cnt rd dt at' ht hf : Int32} (h1 : h[25]? = some (obG nr nz nd nn cnt (nI l.length) rd dt at' ht hf)) (h2 : h[26]? = some (aI 176 f)) (hl : rw f 0 l.length = l) (hn : l.length ≤ 16) : ∀ (k i : Nat) (a : Int32 × Int32), i + k = l.length → a = (l.take i).foldl (ptS l) (0, 0) →
    Rx mX3_partsAtRoot (d + 2) 24 [.ref 25, .int a.1, .int a.2, .int (nI i)] [] h (some (.int (l.foldl (ptS l) (0, 0)).1)) h := by
  intro k
  induction k with
  | zero =>
    intro i a hi ha
    have e : i = l.length := by omega
    rw [e, List.take_length] at ha
    subst ha
    rw [e]
    refine Rx_iload_n dX3_partsAtRoot_24 rfl ?_
    refine Rx_aload_n dX3_partsAtRoot_25 rfl ?_
    refine Rx_get dX3_partsAtRoot_26 flX3_53 h1 rfl ?_
    refine Rx_icmp_ge_t 73 dX3_partsAtRoot_29 (by decide) (nI_le (Nat.le_refl _) (by omega)) ?_
    refine Rx_iload_n dX3_partsAtRoot_73 rfl ?_
    exact Rx_iret dX3_partsAtRoot_74 rfl
  | succ k ih =>
    intro i a hi ha
    have hil : i < l.length := by omega
    have el : l.take (i + 1) = l.take i ++ [f i] := by
      rw [List.take_add_one]
      congr 1
      have : l[i]? = some (f (0 + i)) := by rw [← hl]; exact rw_get hil
      rw [this, Nat.zero_add]
      rfl
    have ea : (l.take (i + 1)).foldl (ptS l) (0, 0) = ptS l a (f i) := by rw [el, List.foldl_append, ← ha]; rfl
    by_cases c : fVars (f i) &&& a.2 = 0
    · have es : ptS l a (f i) = (a.1 + 1, a.2 ||| cvr fVars l 10 (fVars (f i))) := by unfold ptS; rw [if_pos c]
      have sc := sp_conn d (b := 0) (n := l.length) (f i) h1 h2 (by omega)
      rw [hl] at sc
      refine Rx_iload_n dX3_partsAtRoot_24 rfl ?_
      refine Rx_aload_n dX3_partsAtRoot_25 rfl ?_
      refine Rx_get dX3_partsAtRoot_26 flX3_53 h1 rfl ?_
      refine Rx_icmp_ge_f 73 dX3_partsAtRoot_29 (by decide) (nI_ge (by omega) (by omega)) ?_
      refine Rx_aload_n dX3_partsAtRoot_32 rfl ?_
      refine Rx_get dX3_partsAtRoot_33 flX3_11 h1 rfl ?_
      refine Rx_iload_n dX3_partsAtRoot_36 rfl ?_
      refine Rx_iald i dX3_partsAtRoot_37 h2 (by omega) (by decide) rfl ?_
      refine Rx_callS [_] dX3_partsAtRoot_38 clX3_86 (sp_varsOf (d + 1) h _) rfl rfl rfl ?_
      refine Rx_iload_n dX3_partsAtRoot_41 rfl ?_
      refine Rx_iand dX3_partsAtRoot_42 ?_
      refine Rx_if_ne_f 67 dX3_partsAtRoot_43 (by decide) c ?_
      refine Rx_iinc [_, _, _, _] (1) dX3_partsAtRoot_46 rfl (by decide) rfl rfl rfl ?_
      refine Rx_iload_n dX3_partsAtRoot_49 rfl ?_
      refine Rx_aload_n dX3_partsAtRoot_50 rfl ?_
      refine Rx_aload_n dX3_partsAtRoot_51 rfl ?_
      refine Rx_get dX3_partsAtRoot_52 flX3_11 h1 rfl ?_
      refine Rx_iload_n dX3_partsAtRoot_55 rfl ?_
      refine Rx_iald i dX3_partsAtRoot_56 h2 (by omega) (by decide) rfl ?_
      refine Rx_iconst (0) dX3_partsAtRoot_57 (by decide) ?_
      refine Rx_aload_n dX3_partsAtRoot_58 rfl ?_
      refine Rx_get dX3_partsAtRoot_59 flX3_53 h1 rfl ?_
      refine Rx_callV [_, _, _] dX3_partsAtRoot_62 clX3_89 rfl h1 sc rfl rfl rfl ?_
      refine Rx_ior dX3_partsAtRoot_65 ?_
      refine Rx_istore_n [_, _, _, _] dX3_partsAtRoot_66 rfl rfl rfl ?_
      refine Rx_iinc [_, _, _, _] (1) dX3_partsAtRoot_67 rfl (by decide) rfl rfl rfl ?_
      refine Rx_goto 24 dX3_partsAtRoot_70 (by decide) ?_
      rw [nI_1]
      exact ih (i + 1) (a.1 + 1, a.2 ||| cvr fVars l 10 (fVars (f i))) (by omega) (by rw [ea, es])
    · have es : ptS l a (f i) = a := by unfold ptS; rw [if_neg c]
      refine Rx_iload_n dX3_partsAtRoot_24 rfl ?_
      refine Rx_aload_n dX3_partsAtRoot_25 rfl ?_
      refine Rx_get dX3_partsAtRoot_26 flX3_53 h1 rfl ?_
      refine Rx_icmp_ge_f 73 dX3_partsAtRoot_29 (by decide) (nI_ge (by omega) (by omega)) ?_
      refine Rx_aload_n dX3_partsAtRoot_32 rfl ?_
      refine Rx_get dX3_partsAtRoot_33 flX3_11 h1 rfl ?_
      refine Rx_iload_n dX3_partsAtRoot_36 rfl ?_
      refine Rx_iald i dX3_partsAtRoot_37 h2 (by omega) (by decide) rfl ?_
      refine Rx_callS [_] dX3_partsAtRoot_38 clX3_86 (sp_varsOf (d + 1) h _) rfl rfl rfl ?_
      refine Rx_iload_n dX3_partsAtRoot_41 rfl ?_
      refine Rx_iand dX3_partsAtRoot_42 ?_
      refine Rx_if_ne_t 67 dX3_partsAtRoot_43 (by decide) c ?_
      refine Rx_iinc [_, _, _, _] (1) dX3_partsAtRoot_67 rfl (by decide) rfl rfl rfl ?_
      refine Rx_goto 24 dX3_partsAtRoot_70 (by decide) ?_
      rw [nI_1]
      exact ih (i + 1) a (by omega) (by rw [ea, es])
theorem sp_parts (d : Nat) {h : Hp} {rt : List Int32} {v : Int32} {s : Es} (g : GH h rt v s) : Mx mX3_partsAtRoot (d + 2) [.ref 25] h (some (.int (ptC rt))) h := by
  obtain ⟨hn, f, g, hl⟩ := g
  obtain ⟨nr, nz, nd, nn, h1, h2⟩ := GI.cell g
  refine Mx_of [_, _, _, _] (by decide +kernel) rfl rfl ?_
  unfold ptC
  by_cases c0 : rt.length = 0
  · rw [if_pos c0]
    refine Rx_aload_n dX3_partsAtRoot_0 rfl ?_
    refine Rx_get dX3_partsAtRoot_1 flX3_53 h1 rfl ?_
    refine Rx_if_eq_t 16 dX3_partsAtRoot_4 (by decide) (by rw [c0]; rfl) ?_
    refine Rx_iconst (0) dX3_partsAtRoot_16 (by decide) ?_
    exact Rx_iret dX3_partsAtRoot_17 rfl
  · rw [if_neg c0]
    have e0 : rt.getD 0 0 = f 0 := by rw [← hl, rw_getD (by omega)]
    rw [e0]
    by_cases c1 : f 0 = 0
    · rw [if_pos c1]
      refine Rx_aload_n dX3_partsAtRoot_0 rfl ?_
      refine Rx_get dX3_partsAtRoot_1 flX3_53 h1 rfl ?_
      refine Rx_if_eq_f 16 dX3_partsAtRoot_4 (by decide) (nI_ne0 (by omega) (by omega)) ?_
      refine Rx_aload_n dX3_partsAtRoot_7 rfl ?_
      refine Rx_get dX3_partsAtRoot_8 flX3_11 h1 rfl ?_
      refine Rx_iconst (0) dX3_partsAtRoot_11 (by decide) ?_
      refine Rx_iald 0 dX3_partsAtRoot_12 h2 (by decide) (by decide) rfl ?_
      refine Rx_if_ne_f 18 dX3_partsAtRoot_13 (by decide) c1 ?_
      refine Rx_iconst (0) dX3_partsAtRoot_16 (by decide) ?_
      exact Rx_iret dX3_partsAtRoot_17 rfl
    · rw [if_neg c1]
      refine Rx_aload_n dX3_partsAtRoot_0 rfl ?_
      refine Rx_get dX3_partsAtRoot_1 flX3_53 h1 rfl ?_
      refine Rx_if_eq_f 16 dX3_partsAtRoot_4 (by decide) (nI_ne0 (by omega) (by omega)) ?_
      refine Rx_aload_n dX3_partsAtRoot_7 rfl ?_
      refine Rx_get dX3_partsAtRoot_8 flX3_11 h1 rfl ?_
      refine Rx_iconst (0) dX3_partsAtRoot_11 (by decide) ?_
      refine Rx_iald 0 dX3_partsAtRoot_12 h2 (by decide) (by decide) rfl ?_
      refine Rx_if_ne_t 18 dX3_partsAtRoot_13 (by decide) c1 ?_
      refine Rx_iconst (0) dX3_partsAtRoot_18 (by decide) ?_
      refine Rx_istore_n [_, _, _, _] dX3_partsAtRoot_19 rfl rfl rfl ?_
      refine Rx_iconst (0) dX3_partsAtRoot_20 (by decide) ?_
      refine Rx_istore_n [_, _, _, _] dX3_partsAtRoot_21 rfl rfl rfl ?_
      refine Rx_iconst (0) dX3_partsAtRoot_22 (by decide) ?_
      refine Rx_istore_n [_, _, _, _] dX3_partsAtRoot_23 rfl rfl rfl ?_
      exact parts_loop d h1 h2 hl hn rt.length 0 (0, 0) (by omega) rfl
def rvC (l : List Int32) : Int32 := if l.length = 0 then -1 else if l.getD 0 0 = 0 then -2 else if ptC l = 1 then nI (mfv bothC l 10).1 else 0
theorem sp_varRoot (d : Nat) {h : Hp} {rt : List Int32} {v : Int32} {s : Es} (g0 : GH h rt v s) : Mx mX3_variableAtRoot (d + 3) [.ref 25] h (some (.int (rvC rt))) h := by
  have g := g0
  obtain ⟨hn, f, g, hl⟩ := g
  obtain ⟨nr, nz, nd, nn, h1, h2⟩ := GI.cell g
  have sm := sp_mfv d (b := 0) (n := rt.length) h1 h2 (by omega)
  rw [hl] at sm
  refine Mx_of [_] (by decide +kernel) rfl rfl ?_
  unfold rvC
  by_cases c0 : rt.length = 0
  · rw [if_pos c0]
    refine Rx_aload_n dX3_variableAtRoot_0 rfl ?_
    refine Rx_get dX3_variableAtRoot_1 flX3_53 h1 rfl ?_
    refine Rx_if_ne_f 9 dX3_variableAtRoot_4 (by decide) (by rw [c0]; rfl) ?_
    refine Rx_iconst (-1) dX3_variableAtRoot_7 (by decide) ?_
    exact Rx_iret dX3_variableAtRoot_8 rfl
  · rw [if_neg c0]
    have e0 : rt.getD 0 0 = f 0 := by rw [← hl, rw_getD (by omega)]
    rw [e0]
    by_cases c1 : f 0 = 0
    · rw [if_pos c1]
      refine Rx_aload_n dX3_variableAtRoot_0 rfl ?_
      refine Rx_get dX3_variableAtRoot_1 flX3_53 h1 rfl ?_
      refine Rx_if_ne_t 9 dX3_variableAtRoot_4 (by decide) (nI_ne0 (by omega) (by omega)) ?_
      refine Rx_aload_n dX3_variableAtRoot_9 rfl ?_
      refine Rx_get dX3_variableAtRoot_10 flX3_11 h1 rfl ?_
      refine Rx_iconst (0) dX3_variableAtRoot_13 (by decide) ?_
      refine Rx_iald 0 dX3_variableAtRoot_14 h2 (by decide) (by decide) rfl ?_
      refine Rx_if_ne_f 21 dX3_variableAtRoot_15 (by decide) c1 ?_
      refine Rx_bipush (-2) dX3_variableAtRoot_18 (by decide) ?_
      exact Rx_iret dX3_variableAtRoot_20 rfl
    · rw [if_neg c1]
      by_cases c2 : ptC rt = 1
      · rw [if_pos c2]
        refine Rx_aload_n dX3_variableAtRoot_0 rfl ?_
        refine Rx_get dX3_variableAtRoot_1 flX3_53 h1 rfl ?_
        refine Rx_if_ne_t 9 dX3_variableAtRoot_4 (by decide) (nI_ne0 (by omega) (by omega)) ?_
        refine Rx_aload_n dX3_variableAtRoot_9 rfl ?_
        refine Rx_get dX3_variableAtRoot_10 flX3_11 h1 rfl ?_
        refine Rx_iconst (0) dX3_variableAtRoot_13 (by decide) ?_
        refine Rx_iald 0 dX3_variableAtRoot_14 h2 (by decide) (by decide) rfl ?_
        refine Rx_if_ne_t 21 dX3_variableAtRoot_15 (by decide) c1 ?_
        refine Rx_aload_n dX3_variableAtRoot_21 rfl ?_
        refine Rx_callV [] dX3_variableAtRoot_22 clX3_79 rfl h1 (sp_parts d g0) rfl rfl rfl ?_
        refine Rx_iconst (1) dX3_variableAtRoot_25 (by decide) ?_
        refine Rx_icmp_ne_f 41 dX3_variableAtRoot_26 (by decide) c2 ?_
        refine Rx_aload_n dX3_variableAtRoot_29 rfl ?_
        refine Rx_iconst (0) dX3_variableAtRoot_30 (by decide) ?_
        refine Rx_aload_n dX3_variableAtRoot_31 rfl ?_
        refine Rx_get dX3_variableAtRoot_32 flX3_53 h1 rfl ?_
        refine Rx_callV [_, _] dX3_variableAtRoot_35 clX3_83 rfl h1 sm rfl rfl rfl ?_
        refine Rx_goto 42 dX3_variableAtRoot_38 (by decide) ?_
        exact Rx_iret dX3_variableAtRoot_42 rfl
      · rw [if_neg c2]
        refine Rx_aload_n dX3_variableAtRoot_0 rfl ?_
        refine Rx_get dX3_variableAtRoot_1 flX3_53 h1 rfl ?_
        refine Rx_if_ne_t 9 dX3_variableAtRoot_4 (by decide) (nI_ne0 (by omega) (by omega)) ?_
        refine Rx_aload_n dX3_variableAtRoot_9 rfl ?_
        refine Rx_get dX3_variableAtRoot_10 flX3_11 h1 rfl ?_
        refine Rx_iconst (0) dX3_variableAtRoot_13 (by decide) ?_
        refine Rx_iald 0 dX3_variableAtRoot_14 h2 (by decide) (by decide) rfl ?_
        refine Rx_if_ne_t 21 dX3_variableAtRoot_15 (by decide) c1 ?_
        refine Rx_aload_n dX3_variableAtRoot_21 rfl ?_
        refine Rx_callV [] dX3_variableAtRoot_22 clX3_79 rfl h1 (sp_parts d g0) rfl rfl rfl ?_
        refine Rx_iconst (1) dX3_variableAtRoot_25 (by decide) ?_
        refine Rx_icmp_ne_t 41 dX3_variableAtRoot_26 (by decide) c2 ?_
        refine Rx_iconst (0) dX3_variableAtRoot_41 (by decide) ?_
        exact Rx_iret dX3_variableAtRoot_42 rfl
