/-! CnfCompiler's methods: graph, models, text, undo, errorCount -/
theorem sumI_cong {g g' : Nat → Int32} : ∀ {n : Nat}, (∀ i, i < n → g i = g' i) → sumI g n = sumI g' n
  | 0, _ => rfl
  | n + 1, h => by unfold sumI; rw [sumI_cong (fun i hi => h i (by omega)), h n (by omega)]
theorem lstW_cong {f g : Nat → Int64} : ∀ (k i : Nat), (∀ j, i ≤ j → j < i + k → f j = g j) → lstW f k i = lstW g k i
  | 0, _, _ => rfl
  | k + 1, i, h => by unfold lstW; rw [h i (by omega) (by omega), lstW_cong k (i + 1) (fun j a b => h j (by omega) (by omega))]
theorem ptw_congF {f g lo : Nat → Int64} {hi : Nat} (hh : hi < 32) (h : ∀ j, j < 16 → f j = g j) : ∀ (k : Nat), k ≤ 32 → ptw f lo hi k = ptw g lo hi k
  | 0, _ => rfl
  | k + 1, hk => by unfold ptw; rw [h _ (by omega), ptw_congF hh h k (by omega)]
theorem ovw_congF {f g lo hp : Nat → Int64} (h : ∀ j, j < 16 → f j = g j) : ∀ (k : Nat), k ≤ 32 → ovw f lo hp k = ovw g lo hp k
  | 0, _ => rfl
  | k + 1, hk => by unfold ovw; rw [ptw_congF (by omega) h 32 (by omega), ovw_congF h k (by omega)]
theorem exR_congF {s s' o o' : Nat → Int64} {ch : Nat → Int64} : ∀ (k i : Nat) (b : Bool), (∀ j, i ≤ j → j < i + k → s j = s' j ∧ o j = o' j) → exR s o ch k i b = exR s' o' ch k i b
  | 0, _, _, _ => rfl
  | k + 1, i, b, h => by
    unfold exR
    rw [(h i (by omega) (by omega)).1, (h i (by omega) (by omega)).2, exR_congF k (i + 1) _ (fun j a b => h j (by omega) (by omega))]
theorem explW_congF {f g : Nat → Int64} {as : Int32} {c : Nat} (h : ∀ j, j < 16 → f j = g j) : explW f as c = explW g as c := by
  unfold explW
  congr 1
  funext l
  exact exR_congF 16 0 false (fun j a b => by rw [h j (by omega)]; exact ⟨rfl, rfl⟩)
/-! numberOfLeadingZeros and bitsOfShare -/
def nzS (thr sh : Int32) (q : Int32 × Int32) : Int32 × Int32 := if q.2 < thr then q else (q.1 + (-sh), ush q.2 sh)
def nzQ (m : Int32) : Int32 × Int32 := nzS 4 2 (nzS 16 4 (nzS 256 8 (nzS 65536 16 (31, m))))
def nzP (m : Int32) : Int32 := (nzQ m).1 - ush (nzQ m).2 1
theorem nz_73 (d : Nat) (h : Hp) (q : Int32 × Int32) : Rx mJ6_numberOfLeadingZeros_0f7a4 d 73 [.int q.2, .int q.1] [] h (some (.int (q.1 - ush q.2 1))) h := by
  refine Rx_iload_n dJ6_numberOfLeadingZeros_0f7a4_73 rfl ?_
  refine Rx_iload_n dJ6_numberOfLeadingZeros_0f7a4_74 rfl ?_
  refine Rx_iconst (1) dJ6_numberOfLeadingZeros_0f7a4_75 (by decide) ?_
  refine Rx_iushr dJ6_numberOfLeadingZeros_0f7a4_76 ?_
  refine Rx_isub dJ6_numberOfLeadingZeros_0f7a4_77 ?_
  exact Rx_iret dJ6_numberOfLeadingZeros_0f7a4_78 rfl
theorem nz_61 (d : Nat) (h : Hp) (q : Int32 × Int32) : Rx mJ6_numberOfLeadingZeros_0f7a4 d 61 [.int q.2, .int q.1] [] h (some (.int ((nzS 4 2 q).1 - ush (nzS 4 2 q).2 1))) h := by
  by_cases c : q.2 < 4
  · refine Rx_iload_n dJ6_numberOfLeadingZeros_0f7a4_61 rfl ?_
    refine Rx_iconst (4) dJ6_numberOfLeadingZeros_0f7a4_62 (by decide) ?_
    refine Rx_icmp_lt_t 73 dJ6_numberOfLeadingZeros_0f7a4_63 (by decide) c ?_
    rw [nzS, if_pos c]
    exact nz_73 d h q
  · refine Rx_iload_n dJ6_numberOfLeadingZeros_0f7a4_61 rfl ?_
    refine Rx_iconst (4) dJ6_numberOfLeadingZeros_0f7a4_62 (by decide) ?_
    refine Rx_icmp_lt_f 73 dJ6_numberOfLeadingZeros_0f7a4_63 (by decide) c ?_
    refine Rx_iinc [_, _] (-2) dJ6_numberOfLeadingZeros_0f7a4_66 rfl (by decide) rfl rfl rfl ?_
    refine Rx_iload_n dJ6_numberOfLeadingZeros_0f7a4_69 rfl ?_
    refine Rx_iconst (2) dJ6_numberOfLeadingZeros_0f7a4_70 (by decide) ?_
    refine Rx_iushr dJ6_numberOfLeadingZeros_0f7a4_71 ?_
    refine Rx_istore_n [_, _] dJ6_numberOfLeadingZeros_0f7a4_72 rfl rfl rfl ?_
    rw [nzS, if_neg c]
    exact nz_73 d h (q.1 + (-2), ush q.2 2)
theorem nz_48 (d : Nat) (h : Hp) (q : Int32 × Int32) : Rx mJ6_numberOfLeadingZeros_0f7a4 d 48 [.int q.2, .int q.1] [] h (some (.int ((nzS 4 2 (nzS 16 4 q)).1 - ush (nzS 4 2 (nzS 16 4 q)).2 1))) h := by
  by_cases c : q.2 < 16
  · refine Rx_iload_n dJ6_numberOfLeadingZeros_0f7a4_48 rfl ?_
    refine Rx_bipush (16) dJ6_numberOfLeadingZeros_0f7a4_49 (by decide) ?_
    refine Rx_icmp_lt_t 61 dJ6_numberOfLeadingZeros_0f7a4_51 (by decide) c ?_
    rw [show nzS 16 4 q = q from by rw [nzS, if_pos c]]
    exact nz_61 d h q
  · refine Rx_iload_n dJ6_numberOfLeadingZeros_0f7a4_48 rfl ?_
    refine Rx_bipush (16) dJ6_numberOfLeadingZeros_0f7a4_49 (by decide) ?_
    refine Rx_icmp_lt_f 61 dJ6_numberOfLeadingZeros_0f7a4_51 (by decide) c ?_
    refine Rx_iinc [_, _] (-4) dJ6_numberOfLeadingZeros_0f7a4_54 rfl (by decide) rfl rfl rfl ?_
    refine Rx_iload_n dJ6_numberOfLeadingZeros_0f7a4_57 rfl ?_
    refine Rx_iconst (4) dJ6_numberOfLeadingZeros_0f7a4_58 (by decide) ?_
    refine Rx_iushr dJ6_numberOfLeadingZeros_0f7a4_59 ?_
    refine Rx_istore_n [_, _] dJ6_numberOfLeadingZeros_0f7a4_60 rfl rfl rfl ?_
    rw [show nzS 16 4 q = (q.1 + (-4), ush q.2 4) from by rw [nzS, if_neg c]]
    exact nz_61 d h (q.1 + (-4), ush q.2 4)
theorem nz_33 (d : Nat) (h : Hp) (q : Int32 × Int32) : Rx mJ6_numberOfLeadingZeros_0f7a4 d 33 [.int q.2, .int q.1] [] h (some (.int ((nzS 4 2 (nzS 16 4 (nzS 256 8 q))).1 - ush (nzS 4 2 (nzS 16 4 (nzS 256 8 q))).2 1))) h := by
  by_cases c : q.2 < 256
  · refine Rx_iload_n dJ6_numberOfLeadingZeros_0f7a4_33 rfl ?_
    refine Rx_sipush (256) dJ6_numberOfLeadingZeros_0f7a4_34 (by decide) ?_
    refine Rx_icmp_lt_t 48 dJ6_numberOfLeadingZeros_0f7a4_37 (by decide) c ?_
    rw [show nzS 256 8 q = q from by rw [nzS, if_pos c]]
    exact nz_48 d h q
  · refine Rx_iload_n dJ6_numberOfLeadingZeros_0f7a4_33 rfl ?_
    refine Rx_sipush (256) dJ6_numberOfLeadingZeros_0f7a4_34 (by decide) ?_
    refine Rx_icmp_lt_f 48 dJ6_numberOfLeadingZeros_0f7a4_37 (by decide) c ?_
    refine Rx_iinc [_, _] (-8) dJ6_numberOfLeadingZeros_0f7a4_40 rfl (by decide) rfl rfl rfl ?_
    refine Rx_iload_n dJ6_numberOfLeadingZeros_0f7a4_43 rfl ?_
    refine Rx_bipush (8) dJ6_numberOfLeadingZeros_0f7a4_44 (by decide) ?_
    refine Rx_iushr dJ6_numberOfLeadingZeros_0f7a4_46 ?_
    refine Rx_istore_n [_, _] dJ6_numberOfLeadingZeros_0f7a4_47 rfl rfl rfl ?_
    rw [show nzS 256 8 q = (q.1 + (-8), ush q.2 8) from by rw [nzS, if_neg c]]
    exact nz_48 d h (q.1 + (-8), ush q.2 8)
theorem sp_nz (d : Nat) (h : Hp) {m : Int32} (c : 0 < m) : Mx mJ6_numberOfLeadingZeros_0f7a4 d [.int m] h (some (.int (nzP m))) h := by
  refine Mx_of [_, _] (by decide +kernel) rfl rfl ?_
  unfold nzP nzQ
  by_cases c2 : m < 65536
  · refine Rx_iload_n dJ6_numberOfLeadingZeros_0f7a4_0 rfl ?_
    refine Rx_if_gt_t 15 dJ6_numberOfLeadingZeros_0f7a4_1 (by decide) c ?_
    refine Rx_bipush (31) dJ6_numberOfLeadingZeros_0f7a4_15 (by decide) ?_
    refine Rx_istore_n [_, _] dJ6_numberOfLeadingZeros_0f7a4_17 rfl rfl rfl ?_
    refine Rx_iload_n dJ6_numberOfLeadingZeros_0f7a4_18 rfl ?_
    refine Rx_ldcw dJ6_numberOfLeadingZeros_0f7a4_19 kcJ6_264 ?_
    refine Rx_icmp_lt_t 33 dJ6_numberOfLeadingZeros_0f7a4_22 (by decide) c2 ?_
    rw [show nzS 65536 16 (31, m) = (31, m) from by rw [nzS, if_pos c2]]
    exact nz_33 d h (31, m)
  · refine Rx_iload_n dJ6_numberOfLeadingZeros_0f7a4_0 rfl ?_
    refine Rx_if_gt_t 15 dJ6_numberOfLeadingZeros_0f7a4_1 (by decide) c ?_
    refine Rx_bipush (31) dJ6_numberOfLeadingZeros_0f7a4_15 (by decide) ?_
    refine Rx_istore_n [_, _] dJ6_numberOfLeadingZeros_0f7a4_17 rfl rfl rfl ?_
    refine Rx_iload_n dJ6_numberOfLeadingZeros_0f7a4_18 rfl ?_
    refine Rx_ldcw dJ6_numberOfLeadingZeros_0f7a4_19 kcJ6_264 ?_
    refine Rx_icmp_lt_f 33 dJ6_numberOfLeadingZeros_0f7a4_22 (by decide) c2 ?_
    refine Rx_iinc [_, _] (-16) dJ6_numberOfLeadingZeros_0f7a4_25 rfl (by decide) rfl rfl rfl ?_
    refine Rx_iload_n dJ6_numberOfLeadingZeros_0f7a4_28 rfl ?_
    refine Rx_bipush (16) dJ6_numberOfLeadingZeros_0f7a4_29 (by decide) ?_
    refine Rx_iushr dJ6_numberOfLeadingZeros_0f7a4_31 ?_
    refine Rx_istore_n [_, _] dJ6_numberOfLeadingZeros_0f7a4_32 rfl rfl rfl ?_
    rw [show nzS 65536 16 (31, m) = (31 + (-16), ush m 16) from by rw [nzS, if_neg c2]]
    exact nz_33 d h (31 + (-16), ush m 16)
def shB (m : Int32) : Int32 := if 0 < m then ((31 - nzP m) - 10 + 127) <<< ((23 : Int32) &&& 31) ||| ((m - (1 : Int32) <<< ((31 - nzP m) &&& 31)) <<< ((23 - (31 - nzP m)) &&& 31)) else 0
theorem sp_share (d : Nat) (h : Hp) (m : Int32) : Mx mX8_bitsOfShare (d + 1) [.int m] h (some (.int (shB m))) h := by
  refine Mx_of [_, _, _, _] (by decide +kernel) rfl rfl ?_
  unfold shB
  by_cases c : 0 < m
  · rw [if_pos c]
    refine Rx_iload_n dX8_bitsOfShare_0 rfl ?_
    refine Rx_if_gt_t 6 dX8_bitsOfShare_1 (by decide) c ?_
    refine Rx_bipush (31) dX8_bitsOfShare_6 (by decide) ?_
    refine Rx_iload_n dX8_bitsOfShare_8 rfl ?_
    refine Rx_callS [_] dX8_bitsOfShare_9 clX8_239 (sp_nz d h c) rfl rfl rfl ?_
    refine Rx_isub dX8_bitsOfShare_12 ?_
    refine Rx_istore_n [_, _, _, _] dX8_bitsOfShare_13 rfl rfl rfl ?_
    refine Rx_iload_n dX8_bitsOfShare_14 rfl ?_
    refine Rx_bipush (10) dX8_bitsOfShare_15 (by decide) ?_
    refine Rx_isub dX8_bitsOfShare_17 ?_
    refine Rx_bipush (127) dX8_bitsOfShare_18 (by decide) ?_
    refine Rx_iadd dX8_bitsOfShare_20 ?_
    refine Rx_istore_n [_, _, _, _] dX8_bitsOfShare_21 rfl rfl rfl ?_
    refine Rx_iload_n dX8_bitsOfShare_22 rfl ?_
    refine Rx_iconst (1) dX8_bitsOfShare_23 (by decide) ?_
    refine Rx_iload_n dX8_bitsOfShare_24 rfl ?_
    refine Rx_ishl dX8_bitsOfShare_25 ?_
    refine Rx_isub dX8_bitsOfShare_26 ?_
    refine Rx_bipush (23) dX8_bitsOfShare_27 (by decide) ?_
    refine Rx_iload_n dX8_bitsOfShare_29 rfl ?_
    refine Rx_isub dX8_bitsOfShare_30 ?_
    refine Rx_ishl dX8_bitsOfShare_31 ?_
    refine Rx_istore_n [_, _, _, _] dX8_bitsOfShare_32 rfl rfl rfl ?_
    refine Rx_iload_n dX8_bitsOfShare_33 rfl ?_
    refine Rx_bipush (23) dX8_bitsOfShare_34 (by decide) ?_
    refine Rx_ishl dX8_bitsOfShare_36 ?_
    refine Rx_iload_n dX8_bitsOfShare_37 rfl ?_
    refine Rx_ior dX8_bitsOfShare_38 ?_
    exact Rx_iret dX8_bitsOfShare_39 rfl
  · rw [if_neg c]
    refine Rx_iload_n dX8_bitsOfShare_0 rfl ?_
    refine Rx_if_gt_f 6 dX8_bitsOfShare_1 (by decide) c ?_
    refine Rx_iconst (0) dX8_bitsOfShare_4 (by decide) ?_
    exact Rx_iret dX8_bitsOfShare_5 rfl
section API
variable {h : Hp} {n : Nat} {as : Int32} {cs w : Nat → Int32} {k : Nat} {sv : Nat → SC} {er : Nat → Int32} {tn : Nat} {tx : Nat → Int32}
/-! the graph -/
theorem cx_nodes (d0 : Nat) (x : CI h n as cs w k sv er tn tx) (ok : Gok cs n as) : Mq mX8_nodes (d0 + 29) [.ref 0] h (qK h n as cs w k sv er tn tx (.int (ntI (exS cs n as).2))) := by
  have x0 := x
  obtain ⟨gf, mf, h0, -⟩ := x
  refine Mq_of [_] (by decide +kernel) rfl rfl ?_
  refine Rq_aload_n dX8_nodes_0 rfl ?_
  refine Rq_callVq [] dX8_nodes_1 clX8_136 rfl h0 (sp_freshGraph d0 x0 ok) rfl rfl rfl (fun rv h3 hq => ?_)
  obtain ⟨rfl, F, y, g⟩ := hq
  obtain ⟨gi, f, gg, gr⟩ := g
  obtain ⟨nr, nz, nd, nn, h1, h2⟩ := GI.cell gg
  refine Rq_callV [] dX8_nodes_4 clX8_140 rfl h1 (sp_nodeTotal (d0 + 28) ⟨gi, f, gg, gr⟩) rfl rfl rfl ?_
  refine Rq_iret dX8_nodes_7 rfl ?_
  exact ⟨rfl, F, y⟩
theorem cx_dnodes (d0 : Nat) (x : CI h n as cs w k sv er tn tx) (ok : Gok cs n as) : Mq mX8_decisionNodes (d0 + 29) [.ref 0] h (qK h n as cs w k sv er tn tx (.int (exS cs n as).2.2.1)) := by
  have x0 := x
  obtain ⟨gf, mf, h0, -⟩ := x
  refine Mq_of [_] (by decide +kernel) rfl rfl ?_
  refine Rq_aload_n dX8_decisionNodes_0 rfl ?_
  refine Rq_callVq [] dX8_decisionNodes_1 clX8_136 rfl h0 (sp_freshGraph d0 x0 ok) rfl rfl rfl (fun rv h3 hq => ?_)
  obtain ⟨rfl, F, y, g⟩ := hq
  obtain ⟨gi, f, gg, gr⟩ := g
  obtain ⟨nr, nz, nd, nn, h1, h2⟩ := GI.cell gg
  refine Rq_get dX8_decisionNodes_4 flX8_144 h1 rfl ?_
  refine Rq_iret dX8_decisionNodes_7 rfl ?_
  exact ⟨rfl, F, y⟩
theorem cx_anodes (d0 : Nat) (x : CI h n as cs w k sv er tn tx) (ok : Gok cs n as) : Mq mX8_andNodes (d0 + 29) [.ref 0] h (qK h n as cs w k sv er tn tx (.int (exS cs n as).2.2.2.1)) := by
  have x0 := x
  obtain ⟨gf, mf, h0, -⟩ := x
  refine Mq_of [_] (by decide +kernel) rfl rfl ?_
  refine Rq_aload_n dX8_andNodes_0 rfl ?_
  refine Rq_callVq [] dX8_andNodes_1 clX8_136 rfl h0 (sp_freshGraph d0 x0 ok) rfl rfl rfl (fun rv h3 hq => ?_)
  obtain ⟨rfl, F, y, g⟩ := hq
  obtain ⟨gi, f, gg, gr⟩ := g
  obtain ⟨nr, nz, nd, nn, h1, h2⟩ := GI.cell gg
  refine Rq_get dX8_andNodes_4 flX8_147 h1 rfl ?_
  refine Rq_iret dX8_andNodes_7 rfl ?_
  exact ⟨rfl, F, y⟩
theorem cx_depth (d0 : Nat) (x : CI h n as cs w k sv er tn tx) (ok : Gok cs n as) : Mq mX8_depth (d0 + 29) [.ref 0] h (qK h n as cs w k sv er tn tx (.int (exS cs n as).1)) := by
  have x0 := x
  obtain ⟨gf, mf, h0, -⟩ := x
  refine Mq_of [_] (by decide +kernel) rfl rfl ?_
  refine Rq_aload_n dX8_depth_0 rfl ?_
  refine Rq_callVq [] dX8_depth_1 clX8_136 rfl h0 (sp_freshGraph d0 x0 ok) rfl rfl rfl (fun rv h3 hq => ?_)
  obtain ⟨rfl, F, y, g⟩ := hq
  obtain ⟨gi, f, gg, gr⟩ := g
  obtain ⟨nr, nz, nd, nn, h1, h2⟩ := GI.cell gg
  refine Rq_get dX8_depth_4 flX8_150 h1 rfl ?_
  refine Rq_iret dX8_depth_7 rfl ?_
  exact ⟨rfl, F, y⟩
theorem cx_rootv (d0 : Nat) (x : CI h n as cs w k sv er tn tx) (ok : Gok cs n as) : Mq mX8_rootVariable (d0 + 29) [.ref 0] h (qK h n as cs w k sv er tn tx (.int (rvC (rootC cs n as)))) := by
  have x0 := x
  obtain ⟨gf, mf, h0, -⟩ := x
  refine Mq_of [_] (by decide +kernel) rfl rfl ?_
  refine Rq_aload_n dX8_rootVariable_0 rfl ?_
  refine Rq_callVq [] dX8_rootVariable_1 clX8_136 rfl h0 (sp_freshGraph d0 x0 ok) rfl rfl rfl (fun rv h3 hq => ?_)
  obtain ⟨rfl, F, y, g⟩ := hq
  obtain ⟨gi, f, gg, gr⟩ := g
  obtain ⟨nr, nz, nd, nn, h1, h2⟩ := GI.cell gg
  refine Rq_callV [] dX8_rootVariable_4 clX8_153 rfl h1 (sp_varRoot (d0 + 25) ⟨gi, f, gg, gr⟩) rfl rfl rfl ?_
  refine Rq_iret dX8_rootVariable_7 rfl ?_
  exact ⟨rfl, F, y⟩
theorem cx_comps (d0 : Nat) (x : CI h n as cs w k sv er tn tx) (ok : Gok cs n as) : Mq mX8_components (d0 + 29) [.ref 0] h (qK h n as cs w k sv er tn tx (.int (ptC (rootC cs n as)))) := by
  have x0 := x
  obtain ⟨gf, mf, h0, -⟩ := x
  refine Mq_of [_] (by decide +kernel) rfl rfl ?_
  refine Rq_aload_n dX8_components_0 rfl ?_
  refine Rq_callVq [] dX8_components_1 clX8_136 rfl h0 (sp_freshGraph d0 x0 ok) rfl rfl rfl (fun rv h3 hq => ?_)
  obtain ⟨rfl, F, y, g⟩ := hq
  obtain ⟨gi, f, gg, gr⟩ := g
  obtain ⟨nr, nz, nd, nn, h1, h2⟩ := GI.cell gg
  refine Rq_callV [] dX8_components_4 clX8_156 rfl h1 (sp_parts (d0 + 26) ⟨gi, f, gg, gr⟩) rfl rfl rfl ?_
  refine Rq_iret dX8_components_7 rfl ?_
  exact ⟨rfl, F, y⟩
/-! the models -/
def szW (cs : Nat → Int32) (n : Nat) (as : Int32) : Int32 := sumI (fun j => bcL (gW cs n as j)) 16
def swW (cs : Nat → Int32) (n : Nat) (as : Int32) (c : Nat) : Int32 := sumI (fun j => bcL (gW cs n as j &&& lwv c j)) 16
def wcW (cs : Nat → Int32) (n : Nat) (as : Int32) (w : Nat → Int32) : Int64 := ovw (gW cs n as) (fun j => pw w 1 j 5) (fun j => pw w 6 j 5) 32
theorem cx_models (d0 : Nat) (x : CI h n as cs w k sv er tn tx) : Mq mX8_models (d0 + 4) [.ref 0] h (qK h n as cs w k sv er tn tx (.int (szW cs n as))) := by
  have x0 := x
  obtain ⟨gf, mf, h0, -⟩ := x
  refine Mq_of [_] (by decide +kernel) rfl rfl ?_
  refine Rq_aload_n dX8_models_0 rfl ?_
  refine Rq_callVq [] dX8_models_1 clX8_159 rfl h0 (sp_freshModels d0 x0) rfl rfl rfl (fun rv h3 hq => ?_)
  obtain ⟨rfl, F, y, -, f, m, hf⟩ := hq
  have e : sumI (fun j => bcL (f j)) 16 = szW cs n as := sumI_cong (fun j hj => by rw [hf j hj])
  refine Rq_callV [] dX8_models_4 clX8_163 rfl m.1 (sp_size (d0 + 2) m) rfl rfl rfl ?_
  refine Rq_iret dX8_models_7 rfl ?_
  exact ⟨by rw [e], F, y⟩
theorem cx_mwith_oor (d0 : Nat) {a : Int32} (x : CI h n as cs w k sv er tn tx) (hc : ¬ isLitP a) : Mq mX8_modelsWith (d0 + 2) [.ref 0, .int a] h (qErr h n as cs w k sv (upd er 0 (er 0 + 1)) tn tx (-2)) := by
  have y := x.fail (upd er 0 (er 0 + 1))
  obtain ⟨gf, mf, h0, s, -, -, -, -, -, -, -, -, -, -, h42⟩ := x
  refine Mq_of [_, _] (by decide +kernel) rfl rfl ?_
  refine Rq_iload_n dX8_modelsWith_0 rfl ?_
  refine Rq_callS [_] dX8_modelsWith_1 clX8_76 (sp_isLitN d0 h hc) rfl rfl rfl ?_
  refine Rq_if_ne_f 14 dX8_modelsWith_4 (by decide) rfl ?_
  refine Rq_aload_n dX8_modelsWith_7 rfl ?_
  refine Rq_bipush (-2) dX8_modelsWith_8 (by decide) ?_
  refine Rq_callV [_] dX8_modelsWith_10 clX8_83 rfl h0 (sp_fail d0 0 (by decide) (-2) (by decide) h0 h42) rfl rfl rfl ?_
  refine Rq_iret dX8_modelsWith_13 rfl ?_
  exact ⟨rfl, y.2, y.1⟩
theorem cx_mwith (d0 : Nat) {a : Int32} (x : CI h n as cs w k sv er tn tx) (hc : isLitP a) : Mq mX8_modelsWith (d0 + 4) [.ref 0, .int a] h (qK h n as cs w k sv er tn tx (.int (swW cs n as (cdN a)))) := by
  have x0 := x
  obtain ⟨gf, mf, h0, -⟩ := x
  obtain ⟨c1, c2, c3⟩ := cd_ok hc
  refine Mq_of [_, _] (by decide +kernel) rfl rfl ?_
  refine Rq_iload_n dX8_modelsWith_0 rfl ?_
  refine Rq_callS [_] dX8_modelsWith_1 clX8_76 (sp_isLit (d0 + 2) h hc) rfl rfl rfl ?_
  refine Rq_if_ne_t 14 dX8_modelsWith_4 (by decide) (by decide) ?_
  refine Rq_aload_n dX8_modelsWith_14 rfl ?_
  refine Rq_callVq [] dX8_modelsWith_15 clX8_159 rfl h0 (sp_freshModels d0 x0) rfl rfl rfl (fun rv h3 hq => ?_)
  obtain ⟨rfl, F, y, -, f, m, hf⟩ := hq
  refine Rq_iload_n dX8_modelsWith_18 rfl ?_
  refine Rq_callS [_] dX8_modelsWith_19 clX8_129 (sp_codeOf (d0 + 3) _ a) rfl rfl rfl ?_
  rw [c1]
  have e : sumI (fun j => bcL (f j &&& lwv (cdN a) j)) 16 = swW cs n as (cdN a) := sumI_cong (fun j hj => by rw [hf j hj])
  refine Rq_callV [_] dX8_modelsWith_22 clX8_166 rfl m.1 (sp_sizeWith (d0 + 2) m c2 c3) rfl rfl rfl ?_
  refine Rq_iret dX8_modelsWith_25 rfl ?_
  exact ⟨by rw [e], F, y⟩
theorem CI.wi (x : CI h n as cs w k sv er tn tx) {h' : Hp} (F : Fr [36, 37] h h') (wi' : WI h') : CI h' n as cs w k sv er tn tx ∧ FC h h' := by
  obtain ⟨gf, mf, h0, s, hn, ⟨q, hi⟩, hk, hsv, ti, rd, cg, cm, wi, ce, h42⟩ := x
  exact ⟨⟨gf, mf, F.at (by decide) h0, s.ag (F.ag (by decide)), hn, ⟨q, hi.ag (F.ag (by decide))⟩, hk, hsv, ti.ag (F.ag (by decide)), rd.ag (F.ag (by decide)), cg.fr F (by decide), cm.ag (F.ag (by decide)), wi', ce.ag (F.ag (by decide)), F.at (by decide) h42⟩, F.c (by decide)⟩
theorem cx_wcount (d0 : Nat) (x : CI h n as cs w k sv er tn tx) : Mq mX8_weightedCount (d0 + 4) [.ref 0] h (qK h n as cs w k sv er tn tx (.long (wcW cs n as w))) := by
  have x0 := x
  obtain ⟨gf, mf, h0, -⟩ := x
  refine Mq_of [_] (by decide +kernel) rfl rfl ?_
  refine Rq_aload_n dX8_weightedCount_0 rfl ?_
  refine Rq_get dX8_weightedCount_1 flX8_54 h0 rfl ?_
  refine Rq_aload_n dX8_weightedCount_4 rfl ?_
  refine Rq_callVq [] dX8_weightedCount_5 clX8_159 rfl h0 (sp_freshModels d0 x0) rfl rfl rfl (fun rv h3 hq => ?_)
  obtain ⟨rfl, F, y, -, f, m, hf⟩ := hq
  have y0 := y
  obtain ⟨gf', mf', k0, s, -, -, -, -, -, -, -, -, wi, -⟩ := y0
  refine Rq_aload_n dX8_weightedCount_8 rfl ?_
  refine Rq_get dX8_weightedCount_9 flX8_12 k0 rfl ?_
  refine Rq_callVq [_, _] dX8_weightedCount_12 clX8_169 rfl wi.1 (sp_over (d0 + 1) m wi s) rfl rfl rfl (fun rv h4 hq => ?_)
  obtain ⟨rfl, F2, wi'⟩ := hq
  obtain ⟨y1, y2⟩ := y.wi F2 wi'
  have e : ovw f (fun j => pw w 1 j 5) (fun j => pw w 6 j 5) 32 = wcW cs n as w := ovw_congF hf 32 (Nat.le_refl _)
  refine Rq_lret dX8_weightedCount_15 rfl ?_
  exact ⟨by rw [← e], F.trans y2, y1⟩
theorem cx_share (d0 : Nat) (x : CI h n as cs w k sv er tn tx) : Mq mX8_shareBits (d0 + 5) [.ref 0] h (qK h n as cs w k sv er tn tx (.int (shB (szW cs n as)))) := by
  have x0 := x
  obtain ⟨gf, mf, h0, -⟩ := x
  refine Mq_of [_] (by decide +kernel) rfl rfl ?_
  refine Rq_aload_n dX8_shareBits_0 rfl ?_
  refine Rq_callVq [] dX8_shareBits_1 clX8_173 rfl h0 (cx_models d0 x0) rfl rfl rfl (fun rv h3 hq => ?_)
  obtain ⟨rfl, F, y⟩ := hq
  refine Rq_callS [_] dX8_shareBits_4 clX8_176 (sp_share (d0 + 3) h3 _) rfl rfl rfl ?_
  refine Rq_iret dX8_shareBits_7 rfl ?_
  exact ⟨rfl, F, y⟩
theorem cx_least (d0 : Nat) (x : CI h n as cs w k sv er tn tx) : Mq mX8_leastModel (d0 + 4) [.ref 0] h (qK h n as cs w k sv er tn tx (.int (lstW (gW cs n as) 16 0))) := by
  have x0 := x
  obtain ⟨gf, mf, h0, -⟩ := x
  refine Mq_of [_] (by decide +kernel) rfl rfl ?_
  refine Rq_aload_n dX8_leastModel_0 rfl ?_
  refine Rq_callVq [] dX8_leastModel_1 clX8_159 rfl h0 (sp_freshModels d0 x0) rfl rfl rfl (fun rv h3 hq => ?_)
  obtain ⟨rfl, F, y, -, f, m, hf⟩ := hq
  refine Rq_callV [] dX8_leastModel_4 clX8_179 rfl m.1 (sp_least (d0 + 1) m) rfl rfl rfl ?_
  refine Rq_iret dX8_leastModel_7 rfl ?_
  exact ⟨by rw [lstW_cong 16 0 (fun j _ hj => hf j (by omega))], F, y⟩
def impI (g : Nat → Prop) [DecidablePred g] : Nat → Int32
  | 0 => 0
  | v + 1 => if g (v + 1) then impI g v ||| (1 : Int32) <<< ((nI (v + 1) - 1) &&& 31) else impI g v
theorem cx_impl_oor (d0 : Nat) {a : Int32} (x : CI h n as cs w k sv er tn tx) (h1 : ¬ a = 1) (h2 : ¬ a = -1) : Mq mX8_implied (d0 + 2) [.ref 0, .int a] h (qErr h n as cs w k sv (upd er 0 (er 0 + 1)) tn tx (-2)) := by
  have y := x.fail (upd er 0 (er 0 + 1))
  obtain ⟨gf, mf, h0, s, -, -, -, -, -, -, -, -, -, -, h42⟩ := x
  refine Mq_of [_, _, _, _, _] (by decide +kernel) rfl rfl ?_
  refine Rq_iload_n dX8_implied_0 rfl ?_
  refine Rq_iconst (1) dX8_implied_1 (by decide) ?_
  refine Rq_icmp_eq_f 17 dX8_implied_2 (by decide) h1 ?_
  refine Rq_iload_n dX8_implied_5 rfl ?_
  refine Rq_iconst (-1) dX8_implied_6 (by decide) ?_
  refine Rq_icmp_eq_f 17 dX8_implied_7 (by decide) h2 ?_
  refine Rq_aload_n dX8_implied_10 rfl ?_
  refine Rq_bipush (-2) dX8_implied_11 (by decide) ?_
  refine Rq_callV [_] dX8_implied_13 clX8_83 rfl h0 (sp_fail d0 0 (by decide) (-2) (by decide) h0 h42) rfl rfl rfl ?_
  refine Rq_iret dX8_implied_16 rfl ?_
  exact ⟨rfl, y.2, y.1⟩
def opp1 (a : Int32) (v : Nat) : Nat := if a = 1 then 2 * v + 1 else 2 * v
theorem opp1_1 : ∀ v, v < 11 → 0 < v → fCode (-1 * nI v) = nI (opp1 1 v) := by decide +kernel
theorem opp1_m : ∀ v, v < 11 → 0 < v → fCode (-(-1) * nI v) = nI (opp1 (-1) v) := by decide +kernel
theorem cx_impl (d0 : Nat) {a : Int32} (x : CI h n as cs w k sv er tn tx) (ha : a = 1 ∨ a = -1) : Mq mX8_implied (d0 + 4) [.ref 0, .int a] h (qK h n as cs w k sv er tn tx (.int (impI (fun v => swW cs n as (opp1 a v) = 0) 10))) := by
  have x0 := x
  obtain ⟨gf, mf, h0, -⟩ := x
  have K : Rq mX8_implied (d0 + 4) 17 [.ref 0, .int a, .retAddr 0, .retAddr 0, .retAddr 0] [] h (qK h n as cs w k sv er tn tx (.int (impI (fun v => swW cs n as (opp1 a v) = 0) 10))) := by
    refine Rq_aload_n dX8_implied_17 rfl ?_
    refine Rq_callVq [] dX8_implied_18 clX8_159 rfl h0 (sp_freshModels d0 x0) rfl rfl rfl (fun rv h3 hq => ?_)
    obtain ⟨rfl, F, y, -, f, m, hf⟩ := hq
    refine Rq_astore_n [_, _, _, _, _] dX8_implied_21 rfl rfl rfl ?_
    refine Rq_iconst (0) dX8_implied_22 (by decide) ?_
    refine Rq_istore_n [_, _, _, _, _] dX8_implied_23 rfl rfl rfl ?_
    refine Rq_iconst (1) dX8_implied_24 (by decide) ?_
    refine Rq_istore [_, _, _, _, _] dX8_implied_25 rfl rfl rfl ?_
    have loop : ∀ (j i : Nat), i + j = 10 → Rq mX8_implied (d0 + 4) 27 [.ref 0, .int a, .ref 32, .int (impI (fun v => swW cs n as (opp1 a v) = 0) i), .int (nI (i + 1))] [] h3 (qK h n as cs w k sv er tn tx (.int (impI (fun v => swW cs n as (opp1 a v) = 0) 10))) := by
      intro j
      induction j with
      | zero =>
        intro i hi
        have e : i = 10 := by omega
        subst e
        refine Rq_iload dX8_implied_27 rfl ?_
        refine Rq_bipush (10) dX8_implied_29 (by decide) ?_
        refine Rq_icmp_gt_t 64 dX8_implied_31 (by decide) (nI_lt (a := 10) (b := 11) (by decide) (by decide)) ?_
        refine Rq_iload_n dX8_implied_64 rfl ?_
        refine Rq_iret dX8_implied_65 rfl ?_
        exact ⟨rfl, F, y⟩
      | succ j ih =>
        intro i hi
        have c1 : fCode (-a * nI (i + 1)) = nI (opp1 a (i + 1)) := by
          rcases ha with rfl | rfl
          · exact opp1_1 _ (by omega) (by omega)
          · exact opp1_m _ (by omega) (by omega)
        have c2 : 2 ≤ opp1 a (i + 1) := by unfold opp1; split <;> omega
        have c3 : opp1 a (i + 1) ≤ 21 := by unfold opp1; split <;> omega
        refine Rq_iload dX8_implied_27 rfl ?_
        refine Rq_bipush (10) dX8_implied_29 (by decide) ?_
        refine Rq_icmp_gt_f 64 dX8_implied_31 (by decide) (nI_nlt (a := 10) (b := i + 1) (by omega) (by decide)) ?_
        refine Rq_aload_n dX8_implied_34 rfl ?_
        refine Rq_iload_n dX8_implied_35 rfl ?_
        refine Rq_ineg dX8_implied_36 ?_
        refine Rq_iload dX8_implied_37 rfl ?_
        refine Rq_imul dX8_implied_39 ?_
        refine Rq_callS [_] dX8_implied_40 clX8_129 (sp_codeOf (d0 + 3) _ _) rfl rfl rfl ?_
        rw [c1]
        have e : sumI (fun j => bcL (f j &&& lwv (opp1 a (i + 1)) j)) 16 = swW cs n as (opp1 a (i + 1)) := sumI_cong (fun j hj => by rw [hf j hj])
        refine Rq_callV [_] dX8_implied_43 clX8_166 rfl m.1 (sp_sizeWith (d0 + 2) m c2 c3) rfl rfl rfl ?_
        rw [e]
        by_cases z : swW cs n as (opp1 a (i + 1)) = 0
        · refine Rq_if_ne_f 58 dX8_implied_46 (by decide) z ?_
          refine Rq_iload_n dX8_implied_49 rfl ?_
          refine Rq_iconst (1) dX8_implied_50 (by decide) ?_
          refine Rq_iload dX8_implied_51 rfl ?_
          refine Rq_iconst (1) dX8_implied_53 (by decide) ?_
          refine Rq_isub dX8_implied_54 ?_
          refine Rq_ishl dX8_implied_55 ?_
          refine Rq_ior dX8_implied_56 ?_
          refine Rq_istore_n [_, _, _, _, _] dX8_implied_57 rfl rfl rfl ?_
          refine Rq_iinc [_, _, _, _, _] (1) dX8_implied_58 rfl (by decide) rfl rfl rfl ?_
          refine Rq_goto 27 dX8_implied_61 (by decide) ?_
          rw [nI_1]
          have q := ih (i + 1) (by omega)
          simp only [impI, if_pos z] at q
          exact q
        · refine Rq_if_ne_t 58 dX8_implied_46 (by decide) z ?_
          refine Rq_iinc [_, _, _, _, _] (1) dX8_implied_58 rfl (by decide) rfl rfl rfl ?_
          refine Rq_goto 27 dX8_implied_61 (by decide) ?_
          rw [nI_1]
          have q := ih (i + 1) (by omega)
          simp only [impI, if_neg z] at q
          exact q
    exact loop 10 0 (by omega)
  refine Mq_of [_, _, _, _, _] (by decide +kernel) rfl rfl ?_
  rcases ha with rfl | rfl
  · refine Rq_iload_n dX8_implied_0 rfl ?_
    refine Rq_iconst (1) dX8_implied_1 (by decide) ?_
    refine Rq_icmp_eq_t 17 dX8_implied_2 (by decide) rfl ?_
    exact K
  · refine Rq_iload_n dX8_implied_0 rfl ?_
    refine Rq_iconst (1) dX8_implied_1 (by decide) ?_
    refine Rq_icmp_eq_f 17 dX8_implied_2 (by decide) (by decide) ?_
    refine Rq_iload_n dX8_implied_5 rfl ?_
    refine Rq_iconst (-1) dX8_implied_6 (by decide) ?_
    refine Rq_icmp_eq_t 17 dX8_implied_7 (by decide) rfl ?_
    exact K
end API
