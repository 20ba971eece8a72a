/-! the reference: compiles -/
def soR (S : Nat → Int32) : Int32 := S 17 ||| S 18 <<< ((10 : Int32) &&& 31)
def noR (S : Nat → Int32) : Int32 := S 18 ||| S 17 <<< ((10 : Int32) &&& 31)
def rtK (S : Nat → Int32) : Nat → List Int32
  | 0 => []
  | k + 1 => if S (1 + k) &&& soR S = 0 then insR (rtK S k) (S (1 + k) &&& (noR S ^^^ (-1))) else rtK S k
theorem rtK_len (S : Nat → Int32) : ∀ k, (rtK S k).length ≤ k
  | 0 => Nat.le_refl _
  | k + 1 => by
    unfold rtK
    have := rtK_len S k
    split
    · have := insR_len (l := rtK S k) (c := S (1 + k) &&& (noR S ^^^ (-1)))
      omega
    · omega
theorem rtK_mem {S : Nat → Int32} {m : Int32} : ∀ k, (m ∈ rtK S k ↔ ∃ j, j < k ∧ S (1 + j) &&& soR S = 0 ∧ m = S (1 + j) &&& (noR S ^^^ (-1)))
  | 0 => by simp [rtK]
  | k + 1 => by
    have ih := rtK_mem (S := S) (m := m) k
    unfold rtK
    split
    · next h =>
      rw [insR_mem, ih]
      constructor
      · rintro (z | ⟨j, h1, h2⟩)
        · exact ⟨k, by omega, h, z⟩
        · exact ⟨j, by omega, h2⟩
      · rintro ⟨j, h1, h2, h3⟩
        by_cases e : j = k
        · subst e; exact Or.inl h3
        · exact Or.inr ⟨j, by omega, h2, h3⟩
    · next h =>
      rw [ih]
      constructor
      · rintro ⟨j, h1, h2⟩
        exact ⟨j, by omega, h2⟩
      · rintro ⟨j, h1, h2, h3⟩
        by_cases e : j = k
        · subst e; exact absurd h2 h
        · exact ⟨j, by omega, h2, h3⟩
theorem rtK_VR {S : Nat → Int32} {n : Nat} (hn : n ≤ 16) (hv : ∀ k, k < n → vW (S (1 + k))) : VR (rtK S n) := by
  refine ⟨Nat.le_trans (rtK_len S n) hn, fun m hm => ?_, ?_⟩
  · obtain ⟨j, h1, h2, rfl⟩ := (rtK_mem n).mp hm
    exact vW_and (hv j h1) _
  · clear hv
    clear hn
    induction n with
    | zero => exact List.Pairwise.nil
    | succ n ih =>
      unfold rtK
      split
      · exact insR_srt ih
      · exact ih
/-- the graph of the row l is built: s the nodes, res the root -/
def FIN (l : List Int32) (s : St) (res : Nat) : Prop := (zT s).Nodup ∧ (zT s).length ≤ 1023 ∧ (∀ m ∈ zT s, VR m ∧ ntR m ∧ Rch ntR KdR l m) ∧ (∀ i, i < (zT s).length → nOK s i) ∧
  (zH s = 0 ∨ (zH s = 1 ∧ Rch ntR KdR l [])) ∧ (zF s = 0 ∨ (zF s = 1 ∧ ∃ m, Rch ntR KdR l m ∧ m ≠ [] ∧ m.getD 0 0 = 0)) ∧ idOK s l res ∧ ∃ d, zD s res = nI d ∧ d ≤ nvR l + 1 ∧ DpR (nvR l + 1) l d
/-- the graph's cells, built or not -/
def RG (h : Hp) (S : Nat → Int32) (n : Nat) (ic nm hf ht rt : Int32) : Prop := ∃ B Z vo co dn R H W Mn NA GA DA, h[48]? = some (aI 4096 B) ∧ h[49]? = some (aI 4096 Z) ∧ h[50]? = some (aI 4096 vo) ∧ h[51]? = some (aI 4096 co) ∧ h[52]? = some (aI 4096 dn) ∧ h[53]? = some (aI 65536 R) ∧ h[54]? = some (aI 16384 H) ∧ h[55]? = some (aI 416 W) ∧ h[56]? = some (aI 26 Mn) ∧ h[57]? = some (aI 26 NA) ∧ h[58]? = some (aI 26 GA) ∧ h[59]? = some (aI 26 DA) ∧ dn 0 = 0 ∧ dn 1 = 0 ∧
  (ic = 0 ∨ (ic = 1 ∧ ∃ s res, zV s = vo ∧ zC s = co ∧ zD s = dn ∧ nm = nI ((zT s).length + 2) ∧ hf = zF s ∧ ht = zH s ∧ rt = nI res ∧ FIN (rtK S n) s res))
section RF
variable {h : Hp} {sm ln ic nm rm hf ht rt mm il sp rdm : Int32} {S : Nat → Int32} {n : Nat}
/-- what compiles leaves -/
def cmP (sm ln mm il sp rdm : Int32) (S : Nat → Int32) (n : Nat) (h : Hp) (r : Option Value) (h' : Hp) : Prop := r = none ∧ Fr gC h h' ∧ ∃ nm rm hf ht rt, h'[43]? = some (obM sm ln 1 nm rm hf ht rt mm il sp rdm) ∧ RG h' S n 1 nm hf ht rt
theorem rp_compiles (d : Nat) (hS0 : S 0 = nI n) (hn : n ≤ 16) (hv : ∀ k, k < n → vW (S (1 + k))) (k43 : h[43]? = some (obM sm ln ic nm rm hf ht rt mm il sp rdm)) (k44 : h[44]? = some (aI 39 S)) (x : RG h S n ic nm hf ht rt) : Mq mX9_compiles (d + 4) [.ref 43] h (cmP sm ln mm il sp rdm S n h) := by
  have x0 := x
  obtain ⟨B, Z, vo, co, dn, R, H, W, Mn, NA, GA, DA, k48, k49, k50, k51, k52, k53, k54, k55, k56, k57, k58, k59, d0, d1, x⟩ := x
  refine Mq_of [_, _, _, _] (by decide +kernel) rfl rfl ?_
  rcases x with rfl | ⟨rfl, x⟩
  · -- the row at level 0, then builds
    have loop2 : ∀ (j i : Nat) (h1 : Hp) (W1 Mn1 : Nat → Int32), i + j = n → Fr gC h h1 → Lv W1 Mn1 0 (rtK S i) → GS sm ln 1 rt mm il sp rdm h h1 [] vo co dn W1 Mn1 NA GA DA 0 0 → Rq mX9_compiles (d + 4) 102 [.ref 43, .int (soR S), .int (noR S), .int (nI i)] [] h1 (cmP sm ln mm il sp rdm S n h) := by
      intro j
      induction j with
      | zero =>
        intro i h1 W1 Mn1 hi F lv g
        have e : i = n := by omega
        subst e
        have g0 := g
        obtain ⟨-, B1, Z1, R1, H1, a43, -⟩ := g
        have a44 := F.at (by decide) k44
        have p : pR 0 (rtK S i) (([], vo, co, dn, W1, Mn1, NA, GA, DA, 0, 0) : St) := ⟨rtK_VR hn hv, lv, by have := nv_le (rtK S i); omega, by
          have := f2_mono (nv_le (rtK S i))
          have : f2 10 = 1023 := rfl
          show 0 + _ ≤ _
          omega, List.nodup_nil, (fun i hi => absurd hi (Nat.not_lt_zero _)), d0, d1⟩
        refine Rq_iload_n dX9_compiles_102 rfl ?_
        refine Rq_aload_n dX9_compiles_103 rfl ?_
        refine Rq_get dX9_compiles_104 flX9_7 a43 rfl ?_
        refine Rq_iconst (0) dX9_compiles_107 (by decide) ?_
        refine Rq_iald 0 dX9_compiles_108 a44 (by decide) (by decide) rfl ?_
        refine Rq_icmp_ge_t 148 dX9_compiles_109 (by decide) (by rw [hS0]; exact nI_le (Nat.le_refl _) (by omega)) ?_
        refine Rq_aload_n dX9_compiles_148 rfl ?_
        refine Rq_aload_n dX9_compiles_149 rfl ?_
        refine Rq_callVq [] dX9_compiles_150 clX9_157 rfl a43 (rp_builds d p g0) rfl rfl rfl (fun rv h2 hq => ?_)
        obtain ⟨res, s', rfl, g2, p2⟩ := hq
        have g2' := g2
        obtain ⟨F2, B2, Z2, R2, H2, b43, nt2, -, -, b48, b49, b50, b51, b52, b53, b54, b55, b56, b57, b58, b59⟩ := g2
        refine Rq_put [_, _, _, _, _, _, _, _, _, _, _, _, _, _, _, _, _, _, _, _, _, _, _, _, _, _, _, _, _, _] dX9_compiles_153 fpX9_160 b43 rfl (okv_i _) rfl ?_
        refine Rq_vret dX9_compiles_156 rfl ?_
        have F3 : Fr [43] h2 (h2.set 43 (obM sm ln 1 (nI ((zT s').length + 2)) (nI (off (zT s') (zT s').length)) (zF s') (zH s') (nI res) mm il sp rdm)) := Fr.set (by decide)
        obtain ⟨⟨N, q1, q2, q3⟩, q4, q5, q6, q7, q8, q9, q10, q11, q12⟩ := p2
        have q1' : zT s' = N := q1
        have bz := q5 0 (by omega)
        have bz1 := q5 1 (by omega)
        refine ⟨rfl, F2.trans (F3.mono (by decide)), _, _, _, _, _, hS _ b43, B2, Z2, zV s', zC s', zD s', R2, H2, zW s', zM s', zN s', zG s', zA s', F3.at (by decide) b48, F3.at (by decide) b49, F3.at (by decide) b50, F3.at (by decide) b51, F3.at (by decide) b52, F3.at (by decide) b53, F3.at (by decide) b54, F3.at (by decide) b55, F3.at (by decide) b56, F3.at (by decide) b57, F3.at (by decide) b58, F3.at (by decide) b59, bz.2.2.trans d0, bz1.2.2.trans d1, Or.inr ⟨rfl, s', res, rfl, rfl, rfl, rfl, rfl, rfl, rfl, q4, ?_, fun m hm => q3 m (by rw [← q1']; exact hm), fun i hi => q6 i (Nat.zero_le _) hi, q10.1, q10.2.1, q11, q12⟩⟩
        rw [q1']
        have := f2_mono (nv_le (rtK S i))
        have e10 : f2 10 = 1023 := rfl
        omega
      | succ j ih =>
        intro i h1 W1 Mn1 hi F lv g
        have g0 := g
        obtain ⟨-, B1, Z1, R1, H1, a43, -, -, -, -, -, -, -, -, -, -, a55, a56, -⟩ := g
        have a44 := F.at (by decide) k44
        have rl := rtK_len S i
        by_cases c : S (1 + i) &&& soR S = 0
        · have e : rtK S (i + 1) = insR (rtK S i) (S (1 + i) &&& (noR S ^^^ (-1))) := by show (if _ then _ else _) = _; rw [if_pos c]
          refine Rq_iload_n dX9_compiles_102 rfl ?_
          refine Rq_aload_n dX9_compiles_103 rfl ?_
          refine Rq_get dX9_compiles_104 flX9_7 a43 rfl ?_
          refine Rq_iconst (0) dX9_compiles_107 (by decide) ?_
          refine Rq_iald 0 dX9_compiles_108 a44 (by decide) (by decide) rfl ?_
          refine Rq_icmp_ge_f 148 dX9_compiles_109 (by decide) (by rw [hS0]; exact nI_ge (by omega) (by omega)) ?_
          refine Rq_aload_n dX9_compiles_112 rfl ?_
          refine Rq_get dX9_compiles_113 flX9_7 a43 rfl ?_
          refine Rq_iconst (1) dX9_compiles_116 (by decide) ?_
          refine Rq_iload_n dX9_compiles_117 rfl ?_
          refine Rq_iadd dX9_compiles_118 ?_
          refine Rq_iald (1 + i) dX9_compiles_119 a44 (by omega) (by decide) (nI_add 1 i) ?_
          refine Rq_iload_n dX9_compiles_120 rfl ?_
          refine Rq_iand dX9_compiles_121 ?_
          refine Rq_if_ne_f 142 dX9_compiles_122 (by decide) c ?_
          refine Rq_aload_n dX9_compiles_125 rfl ?_
          refine Rq_iconst (0) dX9_compiles_126 (by decide) ?_
          refine Rq_aload_n dX9_compiles_127 rfl ?_
          refine Rq_get dX9_compiles_128 flX9_7 a43 rfl ?_
          refine Rq_iconst (1) dX9_compiles_131 (by decide) ?_
          refine Rq_iload_n dX9_compiles_132 rfl ?_
          refine Rq_iadd dX9_compiles_133 ?_
          refine Rq_iald (1 + i) dX9_compiles_134 a44 (by omega) (by decide) (nI_add 1 i) ?_
          refine Rq_iload_n dX9_compiles_135 rfl ?_
          refine Rq_iconst (-1) dX9_compiles_136 (by decide) ?_
          refine Rq_ixor dX9_compiles_137 ?_
          refine Rq_iand dX9_compiles_138 ?_
          refine Rq_callVq [_, _] dX9_compiles_139 clX9_122 rfl a43 (rp_puts (d + 3) (L := 0) (by decide) (by omega) a43 a55 a56 lv) rfl rfl rfl (fun rv h2 hq => ?_)
          obtain ⟨rfl, F2, W2, Mn2, b55, b56, lv2, -, -⟩ := hq
          refine Rq_iinc [_, _, _, _] (1) dX9_compiles_142 rfl (by decide) rfl rfl rfl ?_
          refine Rq_goto 102 dX9_compiles_145 (by decide) ?_
          rw [nI_1]
          exact ih (i + 1) h2 W2 Mn2 (by omega) (F.trans (F2.mono (by decide))) (by rw [e]; exact lv2) (g0.wm F2 b55 b56)
        · have e : rtK S (i + 1) = rtK S i := by show (if _ then _ else _) = _; rw [if_neg c]
          refine Rq_iload_n dX9_compiles_102 rfl ?_
          refine Rq_aload_n dX9_compiles_103 rfl ?_
          refine Rq_get dX9_compiles_104 flX9_7 a43 rfl ?_
          refine Rq_iconst (0) dX9_compiles_107 (by decide) ?_
          refine Rq_iald 0 dX9_compiles_108 a44 (by decide) (by decide) rfl ?_
          refine Rq_icmp_ge_f 148 dX9_compiles_109 (by decide) (by rw [hS0]; exact nI_ge (by omega) (by omega)) ?_
          refine Rq_aload_n dX9_compiles_112 rfl ?_
          refine Rq_get dX9_compiles_113 flX9_7 a43 rfl ?_
          refine Rq_iconst (1) dX9_compiles_116 (by decide) ?_
          refine Rq_iload_n dX9_compiles_117 rfl ?_
          refine Rq_iadd dX9_compiles_118 ?_
          refine Rq_iald (1 + i) dX9_compiles_119 a44 (by omega) (by decide) (nI_add 1 i) ?_
          refine Rq_iload_n dX9_compiles_120 rfl ?_
          refine Rq_iand dX9_compiles_121 ?_
          refine Rq_if_ne_t 142 dX9_compiles_122 (by decide) c ?_
          refine Rq_iinc [_, _, _, _] (1) dX9_compiles_142 rfl (by decide) rfl rfl rfl ?_
          refine Rq_goto 102 dX9_compiles_145 (by decide) ?_
          rw [nI_1]
          exact ih (i + 1) h1 W1 Mn1 (by omega) F (by rw [e]; exact lv) g0
    have loop1 : ∀ (j i : Nat) (h1 : Hp), i + j = 16384 → Fr [43, 54] h h1 → h1[43]? = some (obM sm ln 1 nm rm hf ht rt mm il sp rdm) → h1[54]? = some (aI 16384 (fillf H i 0)) → Rq mX9_compiles (d + 4) 15 [.ref 43, .int (nI i), .retAddr 0, .retAddr 0] [] h1 (cmP sm ln mm il sp rdm S n h) := by
      intro j
      induction j with
      | zero =>
        intro i h1 hi F a43 a54
        have e : i = 16384 := by omega
        subst e
        refine Rq_iload_n dX9_compiles_15 rfl ?_
        refine Rq_sipush (16384) dX9_compiles_16 (by decide) ?_
        refine Rq_icmp_ge_t 35 dX9_compiles_19 (by decide) (nI_le (a := 16384) (b := 16384) (Nat.le_refl _) (by decide)) ?_
        refine Rq_aload_n dX9_compiles_35 rfl ?_
        refine Rq_iconst (2) dX9_compiles_36 (by decide) ?_
        refine Rq_put [_, _, _, _, _, _, _, _, _, _, _, _, _, _, _, _, _, _, _, _, _, _, _, _, _, _, _, _, _, _] dX9_compiles_37 fpX9_135 a43 rfl (okv_i _) rfl ?_
        have b43 := hS (obM sm ln 1 2 rm hf ht rt mm il sp rdm) a43
        refine Rq_aload_n dX9_compiles_40 rfl ?_
        refine Rq_iconst (0) dX9_compiles_41 (by decide) ?_
        refine Rq_put [_, _, _, _, _, _, _, _, _, _, _, _, _, _, _, _, _, _, _, _, _, _, _, _, _, _, _, _, _, _] dX9_compiles_42 fpX9_138 b43 rfl (okv_i _) rfl ?_
        rw [List.set_set]
        have c43 := hS (obM sm ln 1 2 0 hf ht rt mm il sp rdm) a43
        refine Rq_aload_n dX9_compiles_45 rfl ?_
        refine Rq_iconst (0) dX9_compiles_46 (by decide) ?_
        refine Rq_put [_, _, _, _, _, _, _, _, _, _, _, _, _, _, _, _, _, _, _, _, _, _, _, _, _, _, _, _, _, _] dX9_compiles_47 fpX9_129 c43 rfl okv_0 rfl ?_
        rw [List.set_set]
        have d43 := hS (obM sm ln 1 2 0 0 ht rt mm il sp rdm) a43
        refine Rq_aload_n dX9_compiles_50 rfl ?_
        refine Rq_iconst (0) dX9_compiles_51 (by decide) ?_
        refine Rq_put [_, _, _, _, _, _, _, _, _, _, _, _, _, _, _, _, _, _, _, _, _, _, _, _, _, _, _, _, _, _] dX9_compiles_52 fpX9_126 d43 rfl okv_0 rfl ?_
        rw [List.set_set]
        have e43 := hS (obM sm ln 1 2 0 0 0 rt mm il sp rdm) a43
        have F1 : Fr [43, 54] h (h1.set 43 (obM sm ln 1 2 0 0 0 rt mm il sp rdm)) := F.trans (Fr.set (by decide))
        have e54 := hNs (e' := obM sm ln 1 2 0 0 0 rt mm il sp rdm) (by decide : (43 : Nat) ≠ 54) a54
        refine Rq_aload_n dX9_compiles_55 rfl ?_
        refine Rq_get dX9_compiles_56 flX9_47 e43 rfl ?_
        refine Rq_iconst (0) dX9_compiles_59 (by decide) ?_
        refine Rq_iconst (0) dX9_compiles_60 (by decide) ?_
        refine Rq_iast 0 dX9_compiles_61 (F1.at (by decide) k56) (by decide) (by decide) rfl ?_
        have F2 : Fr [43, 54, 56] h ((h1.set 43 (obM sm ln 1 2 0 0 0 rt mm il sp rdm)).set 56 (aI 26 (upd Mn 0 0))) := (F1.mono (by decide)).trans (Fr.set (by decide))
        have f43 := hNs (e' := aI 26 (upd Mn 0 0)) (by decide : (56 : Nat) ≠ 43) e43
        have f54 := hNs (e' := aI 26 (upd Mn 0 0)) (by decide : (56 : Nat) ≠ 54) e54
        have f56 := hS (aI 26 (upd Mn 0 0)) (F1.at (by decide) k56)
        have f44 := F2.at (by decide) k44
        refine Rq_aload_n dX9_compiles_62 rfl ?_
        refine Rq_get dX9_compiles_63 flX9_7 f43 rfl ?_
        refine Rq_bipush (17) dX9_compiles_66 (by decide) ?_
        refine Rq_iald 17 dX9_compiles_68 f44 (by decide) (by decide) rfl ?_
        refine Rq_aload_n dX9_compiles_69 rfl ?_
        refine Rq_get dX9_compiles_70 flX9_7 f43 rfl ?_
        refine Rq_bipush (18) dX9_compiles_73 (by decide) ?_
        refine Rq_iald 18 dX9_compiles_75 f44 (by decide) (by decide) rfl ?_
        refine Rq_bipush (10) dX9_compiles_76 (by decide) ?_
        refine Rq_ishl dX9_compiles_78 ?_
        refine Rq_ior dX9_compiles_79 ?_
        refine Rq_istore_n [_, _, _, _] dX9_compiles_80 rfl rfl rfl ?_
        refine Rq_aload_n dX9_compiles_81 rfl ?_
        refine Rq_get dX9_compiles_82 flX9_7 f43 rfl ?_
        refine Rq_bipush (18) dX9_compiles_85 (by decide) ?_
        refine Rq_iald 18 dX9_compiles_87 f44 (by decide) (by decide) rfl ?_
        refine Rq_aload_n dX9_compiles_88 rfl ?_
        refine Rq_get dX9_compiles_89 flX9_7 f43 rfl ?_
        refine Rq_bipush (17) dX9_compiles_92 (by decide) ?_
        refine Rq_iald 17 dX9_compiles_94 f44 (by decide) (by decide) rfl ?_
        refine Rq_bipush (10) dX9_compiles_95 (by decide) ?_
        refine Rq_ishl dX9_compiles_97 ?_
        refine Rq_ior dX9_compiles_98 ?_
        refine Rq_istore_n [_, _, _, _] dX9_compiles_99 rfl rfl rfl ?_
        refine Rq_iconst (0) dX9_compiles_100 (by decide) ?_
        refine Rq_istore_n [_, _, _, _] dX9_compiles_101 rfl rfl rfl ?_
        refine loop2 n 0 _ W (upd Mn 0 0) (by omega) (F2.mono (by decide)) ⟨pk_us, Nat.zero_le _, rfl⟩ ⟨F2.mono (by decide), B, Z, R, fillf H 16384 0, f43, ⟨Nat.zero_le _, (fun i hi => by simp at hi), (fun s hs => Or.inl ?_), (fun i hi => by simp at hi), (fun s s' h1 h2 e1 e2 => absurd ?_ e2)⟩, Nat.le_refl _, (fun i hi => by simp at hi), F2.at (by decide) k48, F2.at (by decide) k49, F2.at (by decide) k50, F2.at (by decide) k51, F2.at (by decide) k52, F2.at (by decide) k53, f54, F2.at (by decide) k55, f56, F2.at (by decide) k57, F2.at (by decide) k58, F2.at (by decide) k59⟩
        · simp only [fillf]; rw [if_pos hs]
        · simp only [fillf]; rw [if_pos h1]
      | succ j ih =>
        intro i h1 hi F a43 a54
        refine Rq_iload_n dX9_compiles_15 rfl ?_
        refine Rq_sipush (16384) dX9_compiles_16 (by decide) ?_
        refine Rq_icmp_ge_f 35 dX9_compiles_19 (by decide) (nI_ge (a := i) (b := 16384) (by omega) (by decide)) ?_
        refine Rq_aload_n dX9_compiles_22 rfl ?_
        refine Rq_get dX9_compiles_23 flX9_41 a43 rfl ?_
        refine Rq_iload_n dX9_compiles_26 rfl ?_
        refine Rq_iconst (0) dX9_compiles_27 (by decide) ?_
        refine Rq_iast i dX9_compiles_28 a54 (by omega) (by decide) rfl ?_
        rw [fillf_s]
        refine Rq_iinc [_, _, _, _] (1) dX9_compiles_29 rfl (by decide) rfl rfl rfl ?_
        refine Rq_goto 15 dX9_compiles_32 (by decide) ?_
        rw [nI_1]
        exact ih (i + 1) _ (by omega) (F.trans (Fr.set (by decide))) (hNs (by decide) a43) (hS _ a54)
    refine Rq_aload_n dX9_compiles_0 rfl ?_
    refine Rq_get dX9_compiles_1 flX9_77 k43 rfl ?_
    refine Rq_if_eq_t 8 dX9_compiles_4 (by decide) rfl ?_
    refine Rq_aload_n dX9_compiles_8 rfl ?_
    refine Rq_iconst (1) dX9_compiles_9 (by decide) ?_
    refine Rq_put [_, _, _, _, _, _, _, _, _, _, _, _, _, _, _, _, _, _, _, _, _, _, _, _, _, _, _, _, _, _] dX9_compiles_10 fpX9_77 k43 rfl okv_1 rfl ?_
    refine Rq_iconst (0) dX9_compiles_13 (by decide) ?_
    refine Rq_istore_n [_, _, _, _] dX9_compiles_14 rfl rfl rfl ?_
    exact loop1 16384 0 _ rfl (Fr.set (by decide)) (hS _ k43) (by rw [fillf_0]; exact hNs (by decide) k54)
  · refine Rq_aload_n dX9_compiles_0 rfl ?_
    refine Rq_get dX9_compiles_1 flX9_77 k43 rfl ?_
    refine Rq_if_eq_f 8 dX9_compiles_4 (by decide) (by decide) ?_
    refine Rq_vret dX9_compiles_7 rfl ?_
    exact ⟨rfl, Fr.rfl', nm, rm, hf, ht, rt, k43, x0⟩
end RF
