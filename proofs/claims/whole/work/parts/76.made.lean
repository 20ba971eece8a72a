/-! the two objects, made -/
abbrev r0 : Hp := [obS 2 0 0 3, aI 16 z32, aI 22 o32]
abbrev r1 : Hp := obH :: aS 5 (hsvP 5) :: st5 5
abbrev r2 : Hp := [.inr (2, [.ref 22, .int 0]), aI 150 z32]
abbrev r3 : Hp := [.inr (0, [.ref 24, .int 0, .int 0, .int 0, .int (-1)]), aI 16 z32]
abbrev r4 : Hp := [.inr (3, [.ref 26, .ref 27, .ref 28, .ref 29, .ref 30, .ref 31, .int 0, .int 0, .int 0, .int 0, .int 0, .int 0, .int 0]), aI 176 z32, aI 64 z32, aI 1024 z32, aI 64 z32, aI 64 z32, aI 64 z32]
abbrev r5 : Hp := [.inr (5, [.ref 33, .ref 34]), aL 16 z64, aL 16 z64]
abbrev r6 : Hp := [.inr (7, [.ref 36, .ref 37]), aL 32 z64, aL 32 z64]
abbrev r7 : Hp := [.inr (1, [.ref 39, .ref 40, .ref 41, .int 0, .int (-1), .int (-1)]), aL 16 z64, aL 16 z64, aI 3 z32]
abbrev t0 : Hp := []
abbrev t1 : Hp := t0 ++ r0
abbrev t2 : Hp := t1 ++ r1
abbrev t3 : Hp := t2 ++ r2
abbrev t4 : Hp := t3 ++ r3
abbrev t5 : Hp := t4 ++ r4
abbrev t6 : Hp := t5 ++ r5
abbrev t7 : Hp := t6 ++ r6
abbrev t8 : Hp := t7 ++ r7
abbrev e0 : va_E := (.inr (8, [.null, .null, .null, .null, .null, .null, .null, .null, .null, .int 0, .int 0]))
abbrev e1 : va_E := (.inr (8, [.ref 1, .null, .null, .null, .null, .null, .null, .null, .null, .int 0, .int 0]))
abbrev e2 : va_E := (.inr (8, [.ref 1, .ref 4, .null, .null, .null, .null, .null, .null, .null, .int 0, .int 0]))
abbrev e3 : va_E := (.inr (8, [.ref 1, .ref 4, .ref 21, .null, .null, .null, .null, .null, .null, .int 0, .int 0]))
abbrev e4 : va_E := (.inr (8, [.ref 1, .ref 4, .ref 21, .ref 23, .null, .null, .null, .null, .null, .int 0, .int 0]))
abbrev e5 : va_E := (.inr (8, [.ref 1, .ref 4, .ref 21, .ref 23, .ref 25, .null, .null, .null, .null, .int 0, .int 0]))
abbrev e6 : va_E := (.inr (8, [.ref 1, .ref 4, .ref 21, .ref 23, .ref 25, .ref 32, .null, .null, .null, .int 0, .int 0]))
abbrev e7 : va_E := (.inr (8, [.ref 1, .ref 4, .ref 21, .ref 23, .ref 25, .ref 32, .ref 35, .null, .null, .int 0, .int 0]))
abbrev e8 : va_E := (.inr (8, [.ref 1, .ref 4, .ref 21, .ref 23, .ref 25, .ref 32, .ref 35, .ref 38, .null, .int 0, .int 0]))
abbrev e9 : va_E := (.inr (8, [.ref 1, .ref 4, .ref 21, .ref 23, .ref 25, .ref 32, .ref 35, .ref 38, .ref 42, .int 0, .int 0]))
def HC : Hp := e9 :: (t8 ++ [aI 4 z32])
theorem ci_class (d : Nat) : Mx mX8_init (d + 3) [.ref 0] [e0] none HC := by
  refine Mx_of [_] (by decide +kernel) rfl rfl ?_
  refine Rx_aload_n dX8_init_0 rfl ?_
  refine Rx_objInit dX8_init_1 clX8_3 oi_1 oi_2 rfl ?_
  show Rx _ _ _ _ _ (e0 :: t0) _ _
  refine Rx_aload_n dX8_init_4 rfl ?_
  refine Rx_new dX8_init_5 nlX8_9 ?_
  have hl0 : (e0 :: t0).length = 1 := rfl
  rw [hl0]
  refine Rx_dup dX8_init_8 rfl ?_
  refine Rx_callI [] dX8_init_9 clX8_11 (ci_state (d + 1) hl0) rfl rfl rfl ?_
  show Rx _ _ _ _ _ (e0 :: t1) _ _
  refine Rx_putF [_, _, _, _, _, _, _, _, _, _, _] dX8_init_12 fpX8_12 rfl (show (e0 :: t1)[0]? = some e0 from rfl) rfl (okv_o _ _) rfl ?_
  show Rx _ _ _ _ _ (e1 :: t1) _ _
  refine Rx_aload_n dX8_init_15 rfl ?_
  refine Rx_new dX8_init_16 nlX8_16 ?_
  have hl1 : (e1 :: t1).length = 4 := rfl
  rw [hl1]
  refine Rx_dup dX8_init_19 rfl ?_
  refine Rx_callI [] dX8_init_20 clX8_18 (ci_history d hl1) rfl rfl rfl ?_
  show Rx _ _ _ _ _ (e1 :: t2) _ _
  refine Rx_putF [_, _, _, _, _, _, _, _, _, _, _] dX8_init_23 fpX8_19 rfl (show (e1 :: t2)[0]? = some e1 from rfl) rfl (okv_o _ _) rfl ?_
  show Rx _ _ _ _ _ (e2 :: t2) _ _
  refine Rx_aload_n dX8_init_26 rfl ?_
  refine Rx_new dX8_init_27 nlX8_23 ?_
  have hl2 : (e2 :: t2).length = 21 := rfl
  rw [hl2]
  refine Rx_dup dX8_init_30 rfl ?_
  refine Rx_callI [] dX8_init_31 clX8_25 (ci_text (d + 1) hl2) rfl rfl rfl ?_
  show Rx _ _ _ _ _ (e2 :: t3) _ _
  refine Rx_putF [_, _, _, _, _, _, _, _, _, _, _] dX8_init_34 fpX8_26 rfl (show (e2 :: t3)[0]? = some e2 from rfl) rfl (okv_o _ _) rfl ?_
  show Rx _ _ _ _ _ (e3 :: t3) _ _
  refine Rx_aload_n dX8_init_37 rfl ?_
  refine Rx_new dX8_init_38 nlX8_30 ?_
  have hl3 : (e3 :: t3).length = 23 := rfl
  rw [hl3]
  refine Rx_dup dX8_init_41 rfl ?_
  refine Rx_callI [] dX8_init_42 clX8_32 (ci_reader (d + 1) hl3) rfl rfl rfl ?_
  show Rx _ _ _ _ _ (e3 :: t4) _ _
  refine Rx_putF [_, _, _, _, _, _, _, _, _, _, _] dX8_init_45 fpX8_33 rfl (show (e3 :: t4)[0]? = some e3 from rfl) rfl (okv_o _ _) rfl ?_
  show Rx _ _ _ _ _ (e4 :: t4) _ _
  refine Rx_aload_n dX8_init_48 rfl ?_
  refine Rx_new dX8_init_49 nlX8_37 ?_
  have hl4 : (e4 :: t4).length = 25 := rfl
  rw [hl4]
  refine Rx_dup dX8_init_52 rfl ?_
  refine Rx_callI [] dX8_init_53 clX8_39 (ci_graph (d + 1) hl4) rfl rfl rfl ?_
  show Rx _ _ _ _ _ (e4 :: t5) _ _
  refine Rx_putF [_, _, _, _, _, _, _, _, _, _, _] dX8_init_56 fpX8_40 rfl (show (e4 :: t5)[0]? = some e4 from rfl) rfl (okv_o _ _) rfl ?_
  show Rx _ _ _ _ _ (e5 :: t5) _ _
  refine Rx_aload_n dX8_init_59 rfl ?_
  refine Rx_new dX8_init_60 nlX8_44 ?_
  have hl5 : (e5 :: t5).length = 32 := rfl
  rw [hl5]
  refine Rx_dup dX8_init_63 rfl ?_
  refine Rx_callI [] dX8_init_64 clX8_46 (ci_models (d + 1) hl5) rfl rfl rfl ?_
  show Rx _ _ _ _ _ (e5 :: t6) _ _
  refine Rx_putF [_, _, _, _, _, _, _, _, _, _, _] dX8_init_67 fpX8_47 rfl (show (e5 :: t6)[0]? = some e5 from rfl) rfl (okv_o _ _) rfl ?_
  show Rx _ _ _ _ _ (e6 :: t6) _ _
  refine Rx_aload_n dX8_init_70 rfl ?_
  refine Rx_new dX8_init_71 nlX8_51 ?_
  have hl6 : (e6 :: t6).length = 35 := rfl
  rw [hl6]
  refine Rx_dup dX8_init_74 rfl ?_
  refine Rx_callI [] dX8_init_75 clX8_53 (ci_weighted (d + 1) hl6) rfl rfl rfl ?_
  show Rx _ _ _ _ _ (e6 :: t7) _ _
  refine Rx_putF [_, _, _, _, _, _, _, _, _, _, _] dX8_init_78 fpX8_54 rfl (show (e6 :: t7)[0]? = some e6 from rfl) rfl (okv_o _ _) rfl ?_
  show Rx _ _ _ _ _ (e7 :: t7) _ _
  refine Rx_aload_n dX8_init_81 rfl ?_
  refine Rx_new dX8_init_82 nlX8_58 ?_
  have hl7 : (e7 :: t7).length = 38 := rfl
  rw [hl7]
  refine Rx_dup dX8_init_85 rfl ?_
  refine Rx_callI [] dX8_init_86 clX8_60 (ci_explainer (d + 1) hl7) rfl rfl rfl ?_
  show Rx _ _ _ _ _ (e7 :: t8) _ _
  refine Rx_putF [_, _, _, _, _, _, _, _, _, _, _] dX8_init_89 fpX8_61 rfl (show (e7 :: t8)[0]? = some e7 from rfl) rfl (okv_o _ _) rfl ?_
  show Rx _ _ _ _ _ (e8 :: t8) _ _
  refine Rx_aload_n dX8_init_92 rfl ?_
  refine Rx_iconst (4) dX8_init_93 (by decide) ?_
  refine Rx_newI 4 dX8_init_94 ac_int rfl (by decide) ?_
  have hl8 : (e8 :: t8).length = 42 := rfl
  rw [hl8]
  show Rx _ _ _ _ _ (e8 :: (t8 ++ [aI 4 z32])) _ _
  refine Rx_putF [_, _, _, _, _, _, _, _, _, _, _] dX8_init_96 fpX8_65 rfl (show (e8 :: (t8 ++ [aI 4 z32]))[0]? = some e8 from rfl) rfl (okv_a _ _) rfl ?_
  show Rx _ _ _ _ _ (e9 :: (t8 ++ [aI 4 z32])) _ _
  refine Rx_aload_n dX8_init_99 rfl ?_
  refine Rx_iconst (0) dX8_init_100 (by decide) ?_
  refine Rx_put [_, _, _, _, _, _, _, _, _, _, _] dX8_init_101 fpX8_69 (show (e9 :: (t8 ++ [aI 4 z32]))[0]? = some e9 from rfl) rfl okv_0 rfl ?_
  show Rx _ _ _ _ _ (e9 :: (t8 ++ [aI 4 z32])) _ _
  refine Rx_aload_n dX8_init_104 rfl ?_
  refine Rx_iconst (0) dX8_init_105 (by decide) ?_
  refine Rx_put [_, _, _, _, _, _, _, _, _, _, _] dX8_init_106 fpX8_73 (show (e9 :: (t8 ++ [aI 4 z32]))[0]? = some e9 from rfl) rfl okv_0 rfl ?_
  show Rx _ _ _ _ _ (e9 :: (t8 ++ [aI 4 z32])) _ _
  exact Rx_vret dX8_init_109 rfl
abbrev obN : va_E := .inr (9, [.null, .null, .int 0, .null, .null, .int 0, .int 0, .null, .null, .null, .null, .null, .null, .null, .int 0, .int 0, .int 0, .int 0, .int 0, .null, .null, .null, .null, .null, .null, .int 0, .int 0, .int 0, .null, .int 0])
def wS : Nat → Int32 := fb_put z32 (fun _ => 1) 19 20
def HM : Hp := obM 0 0 0 0 0 0 0 0 0 0 0 0 :: [aI 39 wS, aI 195 z32, aI 4 z32, aI 150 z32, aI 4096 z32, aI 4096 z32, aI 4096 z32, aI 4096 z32, aI 4096 z32, aI 65536 z32, aI 16384 z32, aI 416 z32, aI 26 z32, aI 26 z32, aI 26 z32, aI 26 z32, aI 1024 z32, aI 16 z32]
theorem ci_ref (d : Nat) {g : Hp} (hg : g.length = 43) : Mx mX9_init (d + 2) [.ref 43] (g ++ [obN]) none (g ++ HM) := by
  refine Mx_of [_, _] (by decide +kernel) rfl rfl ?_
  refine Rx_aload_n dX9_init_0 rfl ?_
  refine Rx_objInit dX9_init_1 clX9_1 oi_1 oi_2 rfl ?_
  refine Rx_aload_n dX9_init_4 rfl ?_
  refine Rx_bipush (39) dX9_init_5 (by decide) ?_
  refine Rx_newI 39 dX9_init_7 ac_int rfl (by decide) ?_
  rw [cL0 hg, cP0 (g := g)]
  refine Rx_putF [_, _, _, _, _, _, _, _, _, _, _, _, _, _, _, _, _, _, _, _, _, _, _, _, _, _, _, _, _, _] dX9_init_9 fpX9_7 rfl (cG0 hg) rfl (okv_a _ _) rfl ?_
  rw [cS0 hg]
  refine Rx_aload_n dX9_init_12 rfl ?_
  refine Rx_sipush (195) dX9_init_13 (by decide) ?_
  refine Rx_newI 195 dX9_init_16 ac_int rfl (by decide) ?_
  rw [cL0 hg, cP0 (g := g)]
  refine Rx_putF [_, _, _, _, _, _, _, _, _, _, _, _, _, _, _, _, _, _, _, _, _, _, _, _, _, _, _, _, _, _] dX9_init_18 fpX9_13 rfl (cG0 hg) rfl (okv_a _ _) rfl ?_
  rw [cS0 hg]
  refine Rx_aload_n dX9_init_21 rfl ?_
  refine Rx_iconst (4) dX9_init_22 (by decide) ?_
  refine Rx_newI 4 dX9_init_23 ac_int rfl (by decide) ?_
  rw [cL0 hg, cP0 (g := g)]
  refine Rx_putF [_, _, _, _, _, _, _, _, _, _, _, _, _, _, _, _, _, _, _, _, _, _, _, _, _, _, _, _, _, _] dX9_init_25 fpX9_16 rfl (cG0 hg) rfl (okv_a _ _) rfl ?_
  rw [cS0 hg]
  refine Rx_aload_n dX9_init_28 rfl ?_
  refine Rx_sipush (150) dX9_init_29 (by decide) ?_
  refine Rx_newI 150 dX9_init_32 ac_int rfl (by decide) ?_
  rw [cL0 hg, cP0 (g := g)]
  refine Rx_putF [_, _, _, _, _, _, _, _, _, _, _, _, _, _, _, _, _, _, _, _, _, _, _, _, _, _, _, _, _, _] dX9_init_34 fpX9_19 rfl (cG0 hg) rfl (okv_a _ _) rfl ?_
  rw [cS0 hg]
  refine Rx_aload_n dX9_init_37 rfl ?_
  refine Rx_sipush (4096) dX9_init_38 (by decide) ?_
  refine Rx_newI 4096 dX9_init_41 ac_int rfl (by decide) ?_
  rw [cL0 hg, cP0 (g := g)]
  refine Rx_putF [_, _, _, _, _, _, _, _, _, _, _, _, _, _, _, _, _, _, _, _, _, _, _, _, _, _, _, _, _, _] dX9_init_43 fpX9_22 rfl (cG0 hg) rfl (okv_a _ _) rfl ?_
  rw [cS0 hg]
  refine Rx_aload_n dX9_init_46 rfl ?_
  refine Rx_sipush (4096) dX9_init_47 (by decide) ?_
  refine Rx_newI 4096 dX9_init_50 ac_int rfl (by decide) ?_
  rw [cL0 hg, cP0 (g := g)]
  refine Rx_putF [_, _, _, _, _, _, _, _, _, _, _, _, _, _, _, _, _, _, _, _, _, _, _, _, _, _, _, _, _, _] dX9_init_52 fpX9_25 rfl (cG0 hg) rfl (okv_a _ _) rfl ?_
  rw [cS0 hg]
  refine Rx_aload_n dX9_init_55 rfl ?_
  refine Rx_sipush (4096) dX9_init_56 (by decide) ?_
  refine Rx_newI 4096 dX9_init_59 ac_int rfl (by decide) ?_
  rw [cL0 hg, cP0 (g := g)]
  refine Rx_putF [_, _, _, _, _, _, _, _, _, _, _, _, _, _, _, _, _, _, _, _, _, _, _, _, _, _, _, _, _, _] dX9_init_61 fpX9_28 rfl (cG0 hg) rfl (okv_a _ _) rfl ?_
  rw [cS0 hg]
  refine Rx_aload_n dX9_init_64 rfl ?_
  refine Rx_sipush (4096) dX9_init_65 (by decide) ?_
  refine Rx_newI 4096 dX9_init_68 ac_int rfl (by decide) ?_
  rw [cL0 hg, cP0 (g := g)]
  refine Rx_putF [_, _, _, _, _, _, _, _, _, _, _, _, _, _, _, _, _, _, _, _, _, _, _, _, _, _, _, _, _, _] dX9_init_70 fpX9_31 rfl (cG0 hg) rfl (okv_a _ _) rfl ?_
  rw [cS0 hg]
  refine Rx_aload_n dX9_init_73 rfl ?_
  refine Rx_sipush (4096) dX9_init_74 (by decide) ?_
  refine Rx_newI 4096 dX9_init_77 ac_int rfl (by decide) ?_
  rw [cL0 hg, cP0 (g := g)]
  refine Rx_putF [_, _, _, _, _, _, _, _, _, _, _, _, _, _, _, _, _, _, _, _, _, _, _, _, _, _, _, _, _, _] dX9_init_79 fpX9_34 rfl (cG0 hg) rfl (okv_a _ _) rfl ?_
  rw [cS0 hg]
  refine Rx_aload_n dX9_init_82 rfl ?_
  refine Rx_ldc dX9_init_83 kcX9_37 ?_
  refine Rx_newI 65536 dX9_init_85 ac_int rfl (by decide) ?_
  rw [cL0 hg, cP0 (g := g)]
  refine Rx_putF [_, _, _, _, _, _, _, _, _, _, _, _, _, _, _, _, _, _, _, _, _, _, _, _, _, _, _, _, _, _] dX9_init_87 fpX9_38 rfl (cG0 hg) rfl (okv_a _ _) rfl ?_
  rw [cS0 hg]
  refine Rx_aload_n dX9_init_90 rfl ?_
  refine Rx_sipush (16384) dX9_init_91 (by decide) ?_
  refine Rx_newI 16384 dX9_init_94 ac_int rfl (by decide) ?_
  rw [cL0 hg, cP0 (g := g)]
  refine Rx_putF [_, _, _, _, _, _, _, _, _, _, _, _, _, _, _, _, _, _, _, _, _, _, _, _, _, _, _, _, _, _] dX9_init_96 fpX9_41 rfl (cG0 hg) rfl (okv_a _ _) rfl ?_
  rw [cS0 hg]
  refine Rx_aload_n dX9_init_99 rfl ?_
  refine Rx_sipush (416) dX9_init_100 (by decide) ?_
  refine Rx_newI 416 dX9_init_103 ac_int rfl (by decide) ?_
  rw [cL0 hg, cP0 (g := g)]
  refine Rx_putF [_, _, _, _, _, _, _, _, _, _, _, _, _, _, _, _, _, _, _, _, _, _, _, _, _, _, _, _, _, _] dX9_init_105 fpX9_44 rfl (cG0 hg) rfl (okv_a _ _) rfl ?_
  rw [cS0 hg]
  refine Rx_aload_n dX9_init_108 rfl ?_
  refine Rx_bipush (26) dX9_init_109 (by decide) ?_
  refine Rx_newI 26 dX9_init_111 ac_int rfl (by decide) ?_
  rw [cL0 hg, cP0 (g := g)]
  refine Rx_putF [_, _, _, _, _, _, _, _, _, _, _, _, _, _, _, _, _, _, _, _, _, _, _, _, _, _, _, _, _, _] dX9_init_113 fpX9_47 rfl (cG0 hg) rfl (okv_a _ _) rfl ?_
  rw [cS0 hg]
  refine Rx_aload_n dX9_init_116 rfl ?_
  refine Rx_bipush (26) dX9_init_117 (by decide) ?_
  refine Rx_newI 26 dX9_init_119 ac_int rfl (by decide) ?_
  rw [cL0 hg, cP0 (g := g)]
  refine Rx_putF [_, _, _, _, _, _, _, _, _, _, _, _, _, _, _, _, _, _, _, _, _, _, _, _, _, _, _, _, _, _] dX9_init_121 fpX9_50 rfl (cG0 hg) rfl (okv_a _ _) rfl ?_
  rw [cS0 hg]
  refine Rx_aload_n dX9_init_124 rfl ?_
  refine Rx_bipush (26) dX9_init_125 (by decide) ?_
  refine Rx_newI 26 dX9_init_127 ac_int rfl (by decide) ?_
  rw [cL0 hg, cP0 (g := g)]
  refine Rx_putF [_, _, _, _, _, _, _, _, _, _, _, _, _, _, _, _, _, _, _, _, _, _, _, _, _, _, _, _, _, _] dX9_init_129 fpX9_53 rfl (cG0 hg) rfl (okv_a _ _) rfl ?_
  rw [cS0 hg]
  refine Rx_aload_n dX9_init_132 rfl ?_
  refine Rx_bipush (26) dX9_init_133 (by decide) ?_
  refine Rx_newI 26 dX9_init_135 ac_int rfl (by decide) ?_
  rw [cL0 hg, cP0 (g := g)]
  refine Rx_putF [_, _, _, _, _, _, _, _, _, _, _, _, _, _, _, _, _, _, _, _, _, _, _, _, _, _, _, _, _, _] dX9_init_137 fpX9_56 rfl (cG0 hg) rfl (okv_a _ _) rfl ?_
  rw [cS0 hg]
  refine Rx_aload_n dX9_init_140 rfl ?_
  refine Rx_sipush (1024) dX9_init_141 (by decide) ?_
  refine Rx_newI 1024 dX9_init_144 ac_int rfl (by decide) ?_
  rw [cL0 hg, cP0 (g := g)]
  refine Rx_putF [_, _, _, _, _, _, _, _, _, _, _, _, _, _, _, _, _, _, _, _, _, _, _, _, _, _, _, _, _, _] dX9_init_146 fpX9_59 rfl (cG0 hg) rfl (okv_a _ _) rfl ?_
  rw [cS0 hg]
  refine Rx_aload_n dX9_init_149 rfl ?_
  refine Rx_bipush (16) dX9_init_150 (by decide) ?_
  refine Rx_newI 16 dX9_init_152 ac_int rfl (by decide) ?_
  rw [cL0 hg, cP0 (g := g)]
  refine Rx_putF [_, _, _, _, _, _, _, _, _, _, _, _, _, _, _, _, _, _, _, _, _, _, _, _, _, _, _, _, _, _] dX9_init_154 fpX9_62 rfl (cG0 hg) rfl (okv_a _ _) rfl ?_
  rw [cS0 hg]
  have loop : ∀ (j k : Nat), k + j = 20 → Rx mX9_init (d + 2) 159 [.ref 43, .int (nI k)] [] (g ++ obM 0 0 0 0 0 0 0 0 0 0 0 0 :: aI 39 (fb_put z32 (fun _ => 1) 19 k) :: [aI 195 z32, aI 4 z32, aI 150 z32, aI 4096 z32, aI 4096 z32, aI 4096 z32, aI 4096 z32, aI 4096 z32, aI 65536 z32, aI 16384 z32, aI 416 z32, aI 26 z32, aI 26 z32, aI 26 z32, aI 26 z32, aI 1024 z32, aI 16 z32]) none (g ++ HM) := by
    intro j
    induction j with
    | zero =>
      intro k hk
      have e : k = 20 := by omega
      subst e
      refine Rx_iload_n dX9_init_159 rfl ?_
      refine Rx_bipush (20) dX9_init_160 (by decide) ?_
      refine Rx_icmp_ge_t 181 dX9_init_162 (by decide) (nI_le (a := 20) (b := 20) (Nat.le_refl _) (by decide)) ?_
      exact Rx_vret dX9_init_181 rfl
    | succ j ih =>
      intro k hk
      have s := fb_put_succ z32 (fun _ => (1 : Int32)) 19 k
      have k44 : (g ++ obM 0 0 0 0 0 0 0 0 0 0 0 0 :: aI 39 (fb_put z32 (fun _ => 1) 19 k) :: [aI 195 z32, aI 4 z32, aI 150 z32, aI 4096 z32, aI 4096 z32, aI 4096 z32, aI 4096 z32, aI 4096 z32, aI 65536 z32, aI 16384 z32, aI 416 z32, aI 26 z32, aI 26 z32, aI 26 z32, aI 26 z32, aI 1024 z32, aI 16 z32])[44]? = some (aI 39 (fb_put z32 (fun _ => 1) 19 k)) := cG1 (n := 43) (k := 0) hg
      have e2 : (g ++ obM 0 0 0 0 0 0 0 0 0 0 0 0 :: aI 39 (fb_put z32 (fun _ => 1) 19 k) :: [aI 195 z32, aI 4 z32, aI 150 z32, aI 4096 z32, aI 4096 z32, aI 4096 z32, aI 4096 z32, aI 4096 z32, aI 65536 z32, aI 16384 z32, aI 416 z32, aI 26 z32, aI 26 z32, aI 26 z32, aI 26 z32, aI 1024 z32, aI 16 z32]).set 44 (aI 39 (fb_put z32 (fun _ => 1) 19 (k + 1))) = (g ++ obM 0 0 0 0 0 0 0 0 0 0 0 0 :: aI 39 (fb_put z32 (fun _ => 1) 19 (k + 1)) :: [aI 195 z32, aI 4 z32, aI 150 z32, aI 4096 z32, aI 4096 z32, aI 4096 z32, aI 4096 z32, aI 4096 z32, aI 65536 z32, aI 16384 z32, aI 416 z32, aI 26 z32, aI 26 z32, aI 26 z32, aI 26 z32, aI 1024 z32, aI 16 z32]) := cS1 (n := 43) (k := 0) hg
      have q := ih (k + 1) (by omega)
      refine Rx_iload_n dX9_init_159 rfl ?_
      refine Rx_bipush (20) dX9_init_160 (by decide) ?_
      refine Rx_icmp_ge_f 181 dX9_init_162 (by decide) (nI_ge (a := k) (b := 20) (by omega) (by decide)) ?_
      refine Rx_aload_n dX9_init_165 rfl ?_
      refine Rx_get dX9_init_166 flX9_7 (cG0 hg) rfl ?_
      refine Rx_bipush (19) dX9_init_169 (by decide) ?_
      refine Rx_iload_n dX9_init_171 rfl ?_
      refine Rx_iadd dX9_init_172 ?_
      refine Rx_iconst (1) dX9_init_173 (by decide) ?_
      refine Rx_iast (19 + k) dX9_init_174 k44 (by omega) (by decide) (nI_add 19 k) ?_
      rw [s, e2]
      refine Rx_iinc [_, _] (1) dX9_init_175 rfl (by decide) rfl rfl rfl ?_
      refine Rx_goto 159 dX9_init_178 (by decide) ?_
      rw [nI_1]
      exact q
  have q := loop 20 0 rfl
  rw [fb_put_0] at q
  refine Rx_iconst (0) dX9_init_157 (by decide) ?_
  refine Rx_istore_n [_, _] dX9_init_158 rfl rfl rfl ?_
  exact q
/-! what holds of them -/
def HA : Hp := HC ++ HM
theorem HC_len : HC.length = 43 := rfl
theorem HA_len : HA.length = 62 := rfl
def sv0' : Nat → SC := fun _ => (0, 0, z32, o32)
theorem HA_SV (a : Nat) (h0 : HA[a]? = some (obS (a + 1) 0 0 (a + 2))) (h1 : HA[a + 1]? = some (aI 16 z32)) (h2 : HA[a + 2]? = some (aI 22 o32)) : SV HA a (0, 0, z32, o32) := ⟨h0, ⟨z32, h1, fun _ _ => rfl⟩, o32, h2, fun _ _ => rfl⟩
theorem HA_CI : CI HA 0 0 z32 o32 0 sv0' z32 0 z32 := by
  refine ⟨0, 0, rfl, HA_SV 1 rfl rfl rfl, by decide, ⟨fun i => 6 + 3 * i, rfl, ⟨hsvP 5, rfl, fun i hi => if_pos hi⟩, fun i hi => ?_, fun i j _ _ e => (by simp only at e; omega), fun i hi => ?_⟩, by decide, fun i _ => ⟨0, by decide, rfl⟩, ⟨rfl, rfl, by decide⟩, ⟨0, 0, 0, -1, z32, rfl, rfl⟩, Or.inl ⟨rfl, ?_⟩, ⟨z64, ⟨rfl, rfl, z64, rfl⟩, Or.inl rfl⟩, ⟨rfl, ⟨z64, rfl⟩, z64, rfl⟩, ⟨⟨0, -1, -1, z64, z64, z32, rfl, rfl, rfl, rfl⟩, 0, -1, -1, rfl, Or.inl rfl⟩, rfl⟩
  · unfold sOK
    simp only
    omega
  · have hi' : i = 0 ∨ i = 1 ∨ i = 2 ∨ i = 3 ∨ i = 4 := by omega
    rcases hi' with e | e | e | e | e <;> subst e <;> exact HA_SV _ rfl rfl rfl
  · refine ⟨z32, z32, 0, 0, 0, 0, 0, 0, 0, 28, 29, 30, 31, 64, z32, z32, z32, z32, rfl, rfl, rfl, ⟨rfl, rfl, rfl, rfl⟩, Or.inl rfl, ⟨Or.inl (by decide), Or.inl (by decide), Or.inl (by decide), Or.inl (by decide)⟩, by decide, by decide, by decide, fun k e hk he => ?_⟩
    rw [List.getElem?_eq_none (by rw [HA_len]; exact hk)] at he
    cases he
theorem HA_RI : RI HA wS z32 z32 z32 0 0 0 := by
  refine ⟨0, 0, 0, 0, 0, 0, 0, 0, 0, 0, rfl, rfl, rfl, by decide, fun k hk => absurd hk (Nat.not_lt_zero _), rfl, by decide, fun i hi => absurd hi (Nat.not_lt_zero _), rfl, rfl, by decide, ⟨z32, z32, z32, z32, z32, z32, z32, z32, z32, z32, z32, z32, rfl, rfl, rfl, rfl, rfl, rfl, rfl, rfl, rfl, rfl, rfl, rfl, rfl, rfl, Or.inl rfl⟩, ⟨z32, rfl, Or.inl rfl⟩, z32, rfl⟩
