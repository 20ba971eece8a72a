/-! the reference's graph: goesDeeper -/
def prtK (l : List Int32) (x : Int32) : Nat → List Int32
  | 0 => []
  | k + 1 => if bt x k then insR (prtK l x k) (l.getD k 0) else prtK l x k
def prtR (l : List Int32) (x : Int32) : List Int32 := prtK l x l.length
theorem prtK_len (l : List Int32) (x : Int32) : ∀ k, (prtK l x k).length ≤ k
  | 0 => Nat.le_refl _
  | k + 1 => by
    unfold prtK
    have := prtK_len l x k
    split
    · have := insR_len (l := prtK l x k) (c := l.getD k 0)
      omega
    · omega
theorem shr1_one (x : Int32) {k : Nat} (hk : k < 32) : x >>> (nI k &&& 31) &&& 1 = 1 ↔ bt x k = true := by
  constructor
  · intro h
    apply ts_nf
    intro c
    rw [(shr1_iff x hk).mpr c] at h
    cases h
  · intro c
    apply b_ext
    intro i hi
    rw [b_and]
    have hb : ∀ i : Nat, i < 32 → bt 1 i = decide (i = 0) := by decide
    rw [hb i hi]
    by_cases e : i = 0
    · subst e
      rw [b_sshr k hk x (by decide), Nat.add_zero, if_pos hk, c]
      rfl
    · simp [e]
section RF
variable {h0 h : Hp} {sm ln ic rt mm il sp rdm : Int32} {T : List (List Int32)} {vo co dn W Mn NA GA DA : Nat → Int32} {hf ht : Int32}
/-- a row made at the next level -/
def nxL (W Mn W' Mn' : Nat → Int32) (L : Nat) (m : List Int32) : Prop := Lv W' Mn' (L + 1) m ∧ (∀ k, k < 16 * (L + 1) ∨ 16 * (L + 1) + 16 ≤ k → W' k = W k) ∧ ∀ k, k ≠ L + 1 → Mn' k = Mn k
theorem GS.wm {h' : Hp} (g : GS sm ln ic rt mm il sp rdm h0 h T vo co dn W Mn NA GA DA hf ht) (F : Fr [55, 56] h h') {W' Mn' : Nat → Int32} (h1 : h'[55]? = some (aI 416 W')) (h2 : h'[56]? = some (aI 26 Mn')) : GS sm ln ic rt mm il sp rdm h0 h' T vo co dn W' Mn' NA GA DA hf ht := by
  obtain ⟨F0, B, Z, R, H, k43, nt, ho, hoff, k48, k49, k50, k51, k52, k53, k54, k55, k56, k57, k58, k59⟩ := g
  exact ⟨F0.trans (F.mono (by decide)), B, Z, R, H, F.at (by decide) k43, nt, ho, hoff, F.at (by decide) k48, F.at (by decide) k49, F.at (by decide) k50, F.at (by decide) k51, F.at (by decide) k52, F.at (by decide) k53, F.at (by decide) k54, h1, h2, F.at (by decide) k57, F.at (by decide) k58, F.at (by decide) k59⟩
theorem GS.ga (g : GS sm ln ic rt mm il sp rdm h0 h T vo co dn W Mn NA GA DA hf ht) (G' : Nat → Int32) : GS sm ln ic rt mm il sp rdm h0 (h.set 58 (aI 26 G')) T vo co dn W Mn NA G' DA hf ht := by
  obtain ⟨F0, B, Z, R, H, k43, nt, ho, hoff, k48, k49, k50, k51, k52, k53, k54, k55, k56, k57, k58, k59⟩ := g
  have F : Fr [58] h (h.set 58 (aI 26 G')) := Fr.set (by decide)
  exact ⟨F0.trans (F.mono (by decide)), B, Z, R, H, F.at (by decide) k43, nt, ho, hoff, F.at (by decide) k48, F.at (by decide) k49, F.at (by decide) k50, F.at (by decide) k51, F.at (by decide) k52, F.at (by decide) k53, F.at (by decide) k54, F.at (by decide) k55, F.at (by decide) k56, F.at (by decide) k57, hS _ k58, F.at (by decide) k59⟩
theorem GS.da (g : GS sm ln ic rt mm il sp rdm h0 h T vo co dn W Mn NA GA DA hf ht) (G' : Nat → Int32) : GS sm ln ic rt mm il sp rdm h0 (h.set 59 (aI 26 G')) T vo co dn W Mn NA GA G' hf ht := by
  obtain ⟨F0, B, Z, R, H, k43, nt, ho, hoff, k48, k49, k50, k51, k52, k53, k54, k55, k56, k57, k58, k59⟩ := g
  have F : Fr [59] h (h.set 59 (aI 26 G')) := Fr.set (by decide)
  exact ⟨F0.trans (F.mono (by decide)), B, Z, R, H, F.at (by decide) k43, nt, ho, hoff, F.at (by decide) k48, F.at (by decide) k49, F.at (by decide) k50, F.at (by decide) k51, F.at (by decide) k52, F.at (by decide) k53, F.at (by decide) k54, F.at (by decide) k55, F.at (by decide) k56, F.at (by decide) k57, F.at (by decide) k58, hS _ k59⟩
theorem GS.cx (g : GS sm ln ic rt mm il sp rdm h0 h T vo co dn W Mn NA GA DA hf ht) (G' : Nat → Int32) : GS sm ln ic rt mm il sp rdm h0 (h.set 51 (aI 4096 G')) T vo G' dn W Mn NA GA DA hf ht := by
  obtain ⟨F0, B, Z, R, H, k43, nt, ho, hoff, k48, k49, k50, k51, k52, k53, k54, k55, k56, k57, k58, k59⟩ := g
  have F : Fr [51] h (h.set 51 (aI 4096 G')) := Fr.set (by decide)
  exact ⟨F0.trans (F.mono (by decide)), B, Z, R, H, F.at (by decide) k43, nt, ho, hoff, F.at (by decide) k48, F.at (by decide) k49, F.at (by decide) k50, hS _ k51, F.at (by decide) k52, F.at (by decide) k53, F.at (by decide) k54, F.at (by decide) k55, F.at (by decide) k56, F.at (by decide) k57, F.at (by decide) k58, F.at (by decide) k59⟩
theorem GS.dx (g : GS sm ln ic rt mm il sp rdm h0 h T vo co dn W Mn NA GA DA hf ht) (G' : Nat → Int32) : GS sm ln ic rt mm il sp rdm h0 (h.set 52 (aI 4096 G')) T vo co G' W Mn NA GA DA hf ht := by
  obtain ⟨F0, B, Z, R, H, k43, nt, ho, hoff, k48, k49, k50, k51, k52, k53, k54, k55, k56, k57, k58, k59⟩ := g
  have F : Fr [52] h (h.set 52 (aI 4096 G')) := Fr.set (by decide)
  exact ⟨F0.trans (F.mono (by decide)), B, Z, R, H, F.at (by decide) k43, nt, ho, hoff, F.at (by decide) k48, F.at (by decide) k49, F.at (by decide) k50, F.at (by decide) k51, hS _ k52, F.at (by decide) k53, F.at (by decide) k54, F.at (by decide) k55, F.at (by decide) k56, F.at (by decide) k57, F.at (by decide) k58, F.at (by decide) k59⟩
theorem rp_deep2 (d : Nat) {L i v : Nat} (hL : L < 26) (hi : i < 1024) (hna : NA L = nI (i + 2)) (hv : vo (i + 2) = nI v) (v0 : 0 < v) (v1 : v ≤ 10) (hg : GA L = 2) (g : GS sm ln ic rt mm il sp rdm h0 h T vo co dn W Mn NA GA DA hf ht) :
    Mx mX9_goesDeeper d [.ref 43, .int (nI L)] h (some (.int 0)) h := by
  obtain ⟨F0, B, Z, R, H, k43, nt, ho, hoff, k48, k49, k50, k51, k52, k53, k54, k55, k56, k57, k58, k59⟩ := g
  refine Mx_of [_, _, _, _, _, _] (by decide +kernel) rfl rfl ?_
  refine Rx_aload_n dX9_goesDeeper_0 rfl ?_
  refine Rx_get dX9_goesDeeper_1 flX9_50 k43 rfl ?_
  refine Rx_iload_n dX9_goesDeeper_4 rfl ?_
  refine Rx_iald L dX9_goesDeeper_5 k57 hL (by decide) rfl ?_
  rw [hna]
  refine Rx_istore_n [_, _, _, _, _, _] dX9_goesDeeper_6 rfl rfl rfl ?_
  refine Rx_aload_n dX9_goesDeeper_7 rfl ?_
  refine Rx_get dX9_goesDeeper_8 flX9_28 k43 rfl ?_
  refine Rx_iload_n dX9_goesDeeper_11 rfl ?_
  refine Rx_iald (i + 2) dX9_goesDeeper_12 k50 (by omega) (by decide) rfl ?_
  rw [hv]
  refine Rx_istore_n [_, _, _, _, _, _] dX9_goesDeeper_13 rfl rfl rfl ?_
  refine Rx_iload_n dX9_goesDeeper_14 rfl ?_
  refine Rx_if_le_f 62 dX9_goesDeeper_15 (by decide) (nI_nle v0 (by omega)) ?_
  refine Rx_aload_n dX9_goesDeeper_18 rfl ?_
  refine Rx_get dX9_goesDeeper_19 flX9_53 k43 rfl ?_
  refine Rx_iload_n dX9_goesDeeper_22 rfl ?_
  refine Rx_iald L dX9_goesDeeper_23 k58 hL (by decide) rfl ?_
  refine Rx_iconst (2) dX9_goesDeeper_24 (by decide) ?_
  refine Rx_icmp_ne_f 30 dX9_goesDeeper_25 (by decide) hg ?_
  refine Rx_iconst (0) dX9_goesDeeper_28 (by decide) ?_
  exact Rx_zret dX9_goesDeeper_29 rfl (by decide)
theorem rp_deepD (d : Nat) {L i v gn : Nat} {l : List Int32} (hL : L + 1 < 26) (hi : i < 1024) (hna : NA L = nI (i + 2)) (hv : vo (i + 2) = nI v) (v0 : 0 < v) (v1 : v ≤ 10) (hg : GA L = nI gn) (gn2 : gn < 2) (lv : Lv W Mn L l) (g : GS sm ln ic rt mm il sp rdm h0 h T vo co dn W Mn NA GA DA hf ht) :
    Mq mX9_goesDeeper (d + 2) [.ref 43, .int (nI L)] h (fun r h' => r = some (.int 1) ∧ ∃ W' Mn', nxL W Mn W' Mn' L (resR (if gn = 0 then -nI v else nI v) l) ∧ GS sm ln ic rt mm il sp rdm h0 h' T vo co dn W' Mn' NA (upd GA L (nI (gn + 1))) DA hf ht) := by
  have g0 := g
  obtain ⟨F0, B, Z, R, H, k43, nt, ho, hoff, k48, k49, k50, k51, k52, k53, k54, k55, k56, k57, k58, k59⟩ := g
  have K : ∀ lit : Int32, lit = (if gn = 0 then -nI v else nI v) → Rq mX9_goesDeeper (d + 2) 47 [.ref 43, .int (nI L), .int (nI (i + 2)), .int (nI v), .retAddr 0, .retAddr 0] [.int lit, .int (nI L), .ref 43] h (fun r h' => r = some (.int 1) ∧ ∃ W' Mn', nxL W Mn W' Mn' L (resR (if gn = 0 then -nI v else nI v) l) ∧ GS sm ln ic rt mm il sp rdm h0 h' T vo co dn W' Mn' NA (upd GA L (nI (gn + 1))) DA hf ht) := by
    intro lit hl
    refine Rq_callVq [_, _] dX9_goesDeeper_47 clX9_148 rfl k43 (rp_sets (lit := lit) d hL k43 k55 k56 lv) rfl rfl rfl (fun rv h1 hq => ?_)
    obtain ⟨rfl, F, W', Mn', a55, a56, lv', hw, hm⟩ := hq
    have a43 := F.at (by decide) k43
    have a58 := F.at (by decide) k58
    have g1 := g0.wm F a55 a56
    refine Rq_aload_n dX9_goesDeeper_50 rfl ?_
    refine Rq_get dX9_goesDeeper_51 flX9_53 a43 rfl ?_
    refine Rq_iload_n dX9_goesDeeper_54 rfl ?_
    refine Rq_dup2 dX9_goesDeeper_55 rfl rfl ?_
    refine Rq_iald L dX9_goesDeeper_56 a58 (by omega) (by decide) rfl ?_
    refine Rq_iconst (1) dX9_goesDeeper_57 (by decide) ?_
    refine Rq_iadd dX9_goesDeeper_58 ?_
    rw [hg, nI_1]
    refine Rq_iast L dX9_goesDeeper_59 a58 (by omega) (by decide) rfl ?_
    refine Rq_iconst (1) dX9_goesDeeper_60 (by decide) ?_
    refine Rq_zret dX9_goesDeeper_61 rfl (by decide) ?_
    exact ⟨rfl, W', Mn', ⟨by rw [← hl]; exact lv', hw, hm⟩, g1.ga _⟩
  refine Mq_of [_, _, _, _, _, _] (by decide +kernel) rfl rfl ?_
  refine Rq_aload_n dX9_goesDeeper_0 rfl ?_
  refine Rq_get dX9_goesDeeper_1 flX9_50 k43 rfl ?_
  refine Rq_iload_n dX9_goesDeeper_4 rfl ?_
  refine Rq_iald L dX9_goesDeeper_5 k57 (by omega) (by decide) rfl ?_
  rw [hna]
  refine Rq_istore_n [_, _, _, _, _, _] dX9_goesDeeper_6 rfl rfl rfl ?_
  refine Rq_aload_n dX9_goesDeeper_7 rfl ?_
  refine Rq_get dX9_goesDeeper_8 flX9_28 k43 rfl ?_
  refine Rq_iload_n dX9_goesDeeper_11 rfl ?_
  refine Rq_iald (i + 2) dX9_goesDeeper_12 k50 (by omega) (by decide) rfl ?_
  rw [hv]
  by_cases c : gn = 0
  · subst c
    refine Rq_istore_n [_, _, _, _, _, _] dX9_goesDeeper_13 rfl rfl rfl ?_
    refine Rq_iload_n dX9_goesDeeper_14 rfl ?_
    refine Rq_if_le_f 62 dX9_goesDeeper_15 (by decide) (nI_nle v0 (by omega)) ?_
    refine Rq_aload_n dX9_goesDeeper_18 rfl ?_
    refine Rq_get dX9_goesDeeper_19 flX9_53 k43 rfl ?_
    refine Rq_iload_n dX9_goesDeeper_22 rfl ?_
    refine Rq_iald L dX9_goesDeeper_23 k58 (by omega) (by decide) rfl ?_
    refine Rq_iconst (2) dX9_goesDeeper_24 (by decide) ?_
    refine Rq_icmp_ne_t 30 dX9_goesDeeper_25 (by decide) (by rw [hg]; decide) ?_
    refine Rq_aload_n dX9_goesDeeper_30 rfl ?_
    refine Rq_iload_n dX9_goesDeeper_31 rfl ?_
    refine Rq_aload_n dX9_goesDeeper_32 rfl ?_
    refine Rq_get dX9_goesDeeper_33 flX9_53 k43 rfl ?_
    refine Rq_iload_n dX9_goesDeeper_36 rfl ?_
    refine Rq_iald L dX9_goesDeeper_37 k58 (by omega) (by decide) rfl ?_
    refine Rq_if_ne_f 46 dX9_goesDeeper_38 (by decide) hg ?_
    refine Rq_iload_n dX9_goesDeeper_41 rfl ?_
    refine Rq_ineg dX9_goesDeeper_42 ?_
    refine Rq_goto 47 dX9_goesDeeper_43 (by decide) ?_
    exact K _ rfl
  · have e : gn = 1 := by omega
    subst e
    refine Rq_istore_n [_, _, _, _, _, _] dX9_goesDeeper_13 rfl rfl rfl ?_
    refine Rq_iload_n dX9_goesDeeper_14 rfl ?_
    refine Rq_if_le_f 62 dX9_goesDeeper_15 (by decide) (nI_nle v0 (by omega)) ?_
    refine Rq_aload_n dX9_goesDeeper_18 rfl ?_
    refine Rq_get dX9_goesDeeper_19 flX9_53 k43 rfl ?_
    refine Rq_iload_n dX9_goesDeeper_22 rfl ?_
    refine Rq_iald L dX9_goesDeeper_23 k58 (by omega) (by decide) rfl ?_
    refine Rq_iconst (2) dX9_goesDeeper_24 (by decide) ?_
    refine Rq_icmp_ne_t 30 dX9_goesDeeper_25 (by decide) (by rw [hg]; decide) ?_
    refine Rq_aload_n dX9_goesDeeper_30 rfl ?_
    refine Rq_iload_n dX9_goesDeeper_31 rfl ?_
    refine Rq_aload_n dX9_goesDeeper_32 rfl ?_
    refine Rq_get dX9_goesDeeper_33 flX9_53 k43 rfl ?_
    refine Rq_iload_n dX9_goesDeeper_36 rfl ?_
    refine Rq_iald L dX9_goesDeeper_37 k58 (by omega) (by decide) rfl ?_
    refine Rq_if_ne_t 46 dX9_goesDeeper_38 (by decide) (by rw [hg]; decide) ?_
    refine Rq_iload_n dX9_goesDeeper_46 rfl ?_
    exact K _ rfl
theorem rp_deepE (d : Nat) {L i : Nat} {l : List Int32} (hL : L < 26) (hi : i < 1024) (hna : NA L = nI (i + 2)) (hv : vo (i + 2) = 0) (hg : GA L = (1 : Int32) <<< (nI l.length &&& 31) - 1) (lv : Lv W Mn L l) (g : GS sm ln ic rt mm il sp rdm h0 h T vo co dn W Mn NA GA DA hf ht) :
    Mx mX9_goesDeeper d [.ref 43, .int (nI L)] h (some (.int 0)) h := by
  obtain ⟨F0, B, Z, R, H, k43, nt, ho, hoff, k48, k49, k50, k51, k52, k53, k54, k55, k56, k57, k58, k59⟩ := g
  refine Mx_of [_, _, _, _, _, _] (by decide +kernel) rfl rfl ?_
  refine Rx_aload_n dX9_goesDeeper_0 rfl ?_
  refine Rx_get dX9_goesDeeper_1 flX9_50 k43 rfl ?_
  refine Rx_iload_n dX9_goesDeeper_4 rfl ?_
  refine Rx_iald L dX9_goesDeeper_5 k57 hL (by decide) rfl ?_
  rw [hna]
  refine Rx_istore_n [_, _, _, _, _, _] dX9_goesDeeper_6 rfl rfl rfl ?_
  refine Rx_aload_n dX9_goesDeeper_7 rfl ?_
  refine Rx_get dX9_goesDeeper_8 flX9_28 k43 rfl ?_
  refine Rx_iload_n dX9_goesDeeper_11 rfl ?_
  refine Rx_iald (i + 2) dX9_goesDeeper_12 k50 (by omega) (by decide) rfl ?_
  rw [hv]
  refine Rx_istore_n [_, _, _, _, _, _] dX9_goesDeeper_13 rfl rfl rfl ?_
  refine Rx_iload_n dX9_goesDeeper_14 rfl ?_
  refine Rx_if_le_t 62 dX9_goesDeeper_15 (by decide) (by decide) ?_
  refine Rx_aload_n dX9_goesDeeper_62 rfl ?_
  refine Rx_get dX9_goesDeeper_63 flX9_53 k43 rfl ?_
  refine Rx_iload_n dX9_goesDeeper_66 rfl ?_
  refine Rx_iald L dX9_goesDeeper_67 k58 hL (by decide) rfl ?_
  refine Rx_iconst (1) dX9_goesDeeper_68 (by decide) ?_
  refine Rx_aload_n dX9_goesDeeper_69 rfl ?_
  refine Rx_get dX9_goesDeeper_70 flX9_47 k43 rfl ?_
  refine Rx_iload_n dX9_goesDeeper_73 rfl ?_
  refine Rx_iald L dX9_goesDeeper_74 k56 hL (by decide) rfl ?_
  rw [lv.1]
  refine Rx_ishl dX9_goesDeeper_75 ?_
  refine Rx_iconst (1) dX9_goesDeeper_76 (by decide) ?_
  refine Rx_isub dX9_goesDeeper_77 ?_
  refine Rx_icmp_ne_f 83 dX9_goesDeeper_78 (by decide) hg ?_
  refine Rx_iconst (0) dX9_goesDeeper_81 (by decide) ?_
  exact Rx_zret dX9_goesDeeper_82 rfl (by decide)
theorem rp_deepP (d : Nat) {L i k0 : Nat} {l : List Int32} {x : Int32} (hL : L + 1 < 26) (hi : i < 1024) (hna : NA L = nI (i + 2)) (hv : vo (i + 2) = 0) (hg : GA L = x) (hk : k0 < l.length) (hk1 : bt x k0 = false) (hk2 : ∀ k, k < k0 → bt x k = true) (lv : Lv W Mn L l) (g : GS sm ln ic rt mm il sp rdm h0 h T vo co dn W Mn NA GA DA hf ht) :
    Mq mX9_goesDeeper (d + 2) [.ref 43, .int (nI L)] h (fun r h' => r = some (.int 1) ∧ ∃ y W' Mn', cnOK (vRow l) l.length k0 y ∧ nxL W Mn W' Mn' L (prtR l y) ∧ GS sm ln ic rt mm il sp rdm h0 h' T vo (upd co (i + 2) (co (i + 2) + 1)) dn W' Mn' NA (upd GA L (x ||| y)) DA hf ht) := by
  have ll := lv.2.1
  have g0 := g
  obtain ⟨F0, B, Z, R, H, k43, nt, ho, hoff, k48, k49, k50, k51, k52, k53, k54, k55, k56, k57, k58, k59⟩ := g
  have ne : ¬ x = (1 : Int32) <<< (nI l.length &&& 31) - 1 := fun z => by
    rw [z, low_mask _ (by omega) k0 (by omega), decide_eq_true hk] at hk1
    cases hk1
  refine Mq_of [_, _, _, _, _, _] (by decide +kernel) rfl rfl ?_
  refine Rq_aload_n dX9_goesDeeper_0 rfl ?_
  refine Rq_get dX9_goesDeeper_1 flX9_50 k43 rfl ?_
  refine Rq_iload_n dX9_goesDeeper_4 rfl ?_
  refine Rq_iald L dX9_goesDeeper_5 k57 (by omega) (by decide) rfl ?_
  rw [hna]
  refine Rq_istore_n [_, _, _, _, _, _] dX9_goesDeeper_6 rfl rfl rfl ?_
  refine Rq_aload_n dX9_goesDeeper_7 rfl ?_
  refine Rq_get dX9_goesDeeper_8 flX9_28 k43 rfl ?_
  refine Rq_iload_n dX9_goesDeeper_11 rfl ?_
  refine Rq_iald (i + 2) dX9_goesDeeper_12 k50 (by omega) (by decide) rfl ?_
  rw [hv]
  refine Rq_istore_n [_, _, _, _, _, _] dX9_goesDeeper_13 rfl rfl rfl ?_
  refine Rq_iload_n dX9_goesDeeper_14 rfl ?_
  refine Rq_if_le_t 62 dX9_goesDeeper_15 (by decide) (by decide) ?_
  refine Rq_aload_n dX9_goesDeeper_62 rfl ?_
  refine Rq_get dX9_goesDeeper_63 flX9_53 k43 rfl ?_
  refine Rq_iload_n dX9_goesDeeper_66 rfl ?_
  refine Rq_iald L dX9_goesDeeper_67 k58 (by omega) (by decide) rfl ?_
  rw [hg]
  refine Rq_iconst (1) dX9_goesDeeper_68 (by decide) ?_
  refine Rq_aload_n dX9_goesDeeper_69 rfl ?_
  refine Rq_get dX9_goesDeeper_70 flX9_47 k43 rfl ?_
  refine Rq_iload_n dX9_goesDeeper_73 rfl ?_
  refine Rq_iald L dX9_goesDeeper_74 k56 (by omega) (by decide) rfl ?_
  rw [lv.1]
  refine Rq_ishl dX9_goesDeeper_75 ?_
  refine Rq_iconst (1) dX9_goesDeeper_76 (by decide) ?_
  refine Rq_isub dX9_goesDeeper_77 ?_
  refine Rq_icmp_ne_t 83 dX9_goesDeeper_78 (by decide) ne ?_
  refine Rq_aload_n dX9_goesDeeper_83 rfl ?_
  refine Rq_iload_n dX9_goesDeeper_84 rfl ?_
  refine Rq_aload_n dX9_goesDeeper_85 rfl ?_
  refine Rq_get dX9_goesDeeper_86 flX9_53 k43 rfl ?_
  refine Rq_iload_n dX9_goesDeeper_89 rfl ?_
  refine Rq_iald L dX9_goesDeeper_90 k58 (by omega) (by decide) rfl ?_
  rw [hg]
  refine Rq_callVq [_, _] dX9_goesDeeper_91 clX9_141 rfl k43 (rp_connected d (k0 := k0) (nt := x) (by omega) k43 k55 k56 lv hk hk1 hk2) rfl rfl rfl (fun rv h1 hq => ?_)
  obtain ⟨rfl, y, rfl, cy⟩ := hq
  refine Rq_istore [_, _, _, _, _, _] dX9_goesDeeper_94 rfl rfl rfl ?_
  refine Rq_aload_n dX9_goesDeeper_96 rfl ?_
  refine Rq_get dX9_goesDeeper_97 flX9_47 k43 rfl ?_
  refine Rq_iload_n dX9_goesDeeper_100 rfl ?_
  refine Rq_iconst (1) dX9_goesDeeper_101 (by decide) ?_
  refine Rq_iadd dX9_goesDeeper_102 ?_
  rw [nI_1]
  refine Rq_iconst (0) dX9_goesDeeper_103 (by decide) ?_
  refine Rq_iast (L + 1) dX9_goesDeeper_104 k56 hL (by decide) rfl ?_
  refine Rq_iconst (0) dX9_goesDeeper_105 (by decide) ?_
  refine Rq_istore [_, _, _, _, _, _] dX9_goesDeeper_106 rfl rfl rfl ?_
  have loop : ∀ (j q : Nat) (h2 : Hp) (W2 Mn2 : Nat → Int32), q + j = l.length → Fr [55, 56] h1 h2 → h2[55]? = some (aI 416 W2) → h2[56]? = some (aI 26 Mn2) → nxL W Mn W2 Mn2 L (prtK l y q) →
      Rq mX9_goesDeeper (d + 2) 108 [.ref 43, .int (nI L), .int (nI (i + 2)), .int 0, .int y, .int (nI q)] [] h2 (fun r h' => r = some (.int 1) ∧ ∃ y W' Mn', cnOK (vRow l) l.length k0 y ∧ nxL W Mn W' Mn' L (prtR l y) ∧ GS sm ln ic rt mm il sp rdm h0 h' T vo (upd co (i + 2) (co (i + 2) + 1)) dn W' Mn' NA (upd GA L (x ||| y)) DA hf ht) := by
    intro j
    induction j with
    | zero =>
      intro q h2 W2 Mn2 hq F a55 a56 nx
      have e : q = l.length := by omega
      subst e
      obtain ⟨n1, n2, n3⟩ := nx
      have b : Lv W2 Mn2 L l := lv.keep (n3 L (by omega)) (fun k z1 z2 => n2 k (by omega))
      have g1 := g0.wm F a55 a56
      have a43 := F.at (by decide) k43
      have a58 := F.at (by decide) k58
      refine Rq_iload dX9_goesDeeper_108 rfl ?_
      refine Rq_aload_n dX9_goesDeeper_110 rfl ?_
      refine Rq_get dX9_goesDeeper_111 flX9_47 a43 rfl ?_
      refine Rq_iload_n dX9_goesDeeper_114 rfl ?_
      refine Rq_iald L dX9_goesDeeper_115 a56 (by omega) (by decide) rfl ?_
      refine Rq_icmp_ge_t 155 dX9_goesDeeper_116 (by decide) (by rw [b.1]; exact nI_le (Nat.le_refl _) (by omega)) ?_
      refine Rq_aload_n dX9_goesDeeper_155 rfl ?_
      refine Rq_get dX9_goesDeeper_156 flX9_53 a43 rfl ?_
      refine Rq_iload_n dX9_goesDeeper_159 rfl ?_
      refine Rq_dup2 dX9_goesDeeper_160 rfl rfl ?_
      refine Rq_iald L dX9_goesDeeper_161 a58 (by omega) (by decide) rfl ?_
      rw [hg]
      refine Rq_iload dX9_goesDeeper_162 rfl ?_
      refine Rq_ior dX9_goesDeeper_164 ?_
      refine Rq_iast L dX9_goesDeeper_165 a58 (by omega) (by decide) rfl ?_
      have g2 := g1.ga (upd GA L (x ||| y))
      have b43 := hNs (e' := aI 26 (upd GA L (x ||| y))) (by decide : (58 : Nat) ≠ 43) a43
      have b51 := hNs (e' := aI 26 (upd GA L (x ||| y))) (by decide : (58 : Nat) ≠ 51) (F.at (by decide) k51)
      refine Rq_aload_n dX9_goesDeeper_166 rfl ?_
      refine Rq_get dX9_goesDeeper_167 flX9_31 b43 rfl ?_
      refine Rq_iload_n dX9_goesDeeper_170 rfl ?_
      refine Rq_dup2 dX9_goesDeeper_171 rfl rfl ?_
      refine Rq_iald (i + 2) dX9_goesDeeper_172 b51 (by omega) (by decide) rfl ?_
      refine Rq_iconst (1) dX9_goesDeeper_173 (by decide) ?_
      refine Rq_iadd dX9_goesDeeper_174 ?_
      refine Rq_iast (i + 2) dX9_goesDeeper_175 b51 (by omega) (by decide) rfl ?_
      refine Rq_iconst (1) dX9_goesDeeper_176 (by decide) ?_
      refine Rq_zret dX9_goesDeeper_177 rfl (by decide) ?_
      exact ⟨rfl, y, W2, Mn2, cy, ⟨n1, n2, n3⟩, g2.cx _⟩
    | succ j ih =>
      intro q h2 W2 Mn2 hq F a55 a56 nx
      have nx0 := nx
      obtain ⟨n1, n2, n3⟩ := nx
      have b : Lv W2 Mn2 L l := lv.keep (n3 L (by omega)) (fun k z1 z2 => n2 k (by omega))
      have ew := b.at (show q < l.length by omega)
      have a43 := F.at (by decide) k43
      have pl := prtK_len l y q
      cases c : bt y q with
      | false =>
        have e : prtK l y (q + 1) = prtK l y q := by show (if bt y q then _ else _) = _; rw [c]; rfl
        refine Rq_iload dX9_goesDeeper_108 rfl ?_
        refine Rq_aload_n dX9_goesDeeper_110 rfl ?_
        refine Rq_get dX9_goesDeeper_111 flX9_47 a43 rfl ?_
        refine Rq_iload_n dX9_goesDeeper_114 rfl ?_
        refine Rq_iald L dX9_goesDeeper_115 a56 (by omega) (by decide) rfl ?_
        refine Rq_icmp_ge_f 155 dX9_goesDeeper_116 (by decide) (by rw [b.1]; exact nI_ge (by omega) (by omega)) ?_
        refine Rq_iload dX9_goesDeeper_119 rfl ?_
        refine Rq_iload dX9_goesDeeper_121 rfl ?_
        refine Rq_ishr dX9_goesDeeper_123 ?_
        refine Rq_iconst (1) dX9_goesDeeper_124 (by decide) ?_
        refine Rq_iand dX9_goesDeeper_125 ?_
        refine Rq_iconst (1) dX9_goesDeeper_126 (by decide) ?_
        refine Rq_icmp_ne_t 149 dX9_goesDeeper_127 (by decide) (fun z => by have := (shr1_one y (by omega)).mp z; rw [c] at this; cases this) ?_
        refine Rq_iinc [_, _, _, _, _, _] (1) dX9_goesDeeper_149 rfl (by decide) rfl rfl rfl ?_
        refine Rq_goto 108 dX9_goesDeeper_152 (by decide) ?_
        rw [nI_1]
        exact ih (q + 1) h2 W2 Mn2 (by omega) F a55 a56 (by rw [e]; exact nx0)
      | true =>
        have e : prtK l y (q + 1) = insR (prtK l y q) (l.getD q 0) := by show (if bt y q then _ else _) = _; rw [c]; rfl
        refine Rq_iload dX9_goesDeeper_108 rfl ?_
        refine Rq_aload_n dX9_goesDeeper_110 rfl ?_
        refine Rq_get dX9_goesDeeper_111 flX9_47 a43 rfl ?_
        refine Rq_iload_n dX9_goesDeeper_114 rfl ?_
        refine Rq_iald L dX9_goesDeeper_115 a56 (by omega) (by decide) rfl ?_
        refine Rq_icmp_ge_f 155 dX9_goesDeeper_116 (by decide) (by rw [b.1]; exact nI_ge (by omega) (by omega)) ?_
        refine Rq_iload dX9_goesDeeper_119 rfl ?_
        refine Rq_iload dX9_goesDeeper_121 rfl ?_
        refine Rq_ishr dX9_goesDeeper_123 ?_
        refine Rq_iconst (1) dX9_goesDeeper_124 (by decide) ?_
        refine Rq_iand dX9_goesDeeper_125 ?_
        refine Rq_iconst (1) dX9_goesDeeper_126 (by decide) ?_
        refine Rq_icmp_ne_f 149 dX9_goesDeeper_127 (by decide) ((shr1_one y (by omega)).mpr c) ?_
        refine Rq_aload_n dX9_goesDeeper_130 rfl ?_
        refine Rq_iload_n dX9_goesDeeper_131 rfl ?_
        refine Rq_iconst (1) dX9_goesDeeper_132 (by decide) ?_
        refine Rq_iadd dX9_goesDeeper_133 ?_
        rw [nI_1]
        refine Rq_aload_n dX9_goesDeeper_134 rfl ?_
        refine Rq_get dX9_goesDeeper_135 flX9_44 a43 rfl ?_
        refine Rq_bipush (16) dX9_goesDeeper_138 (by decide) ?_
        refine Rq_iload_n dX9_goesDeeper_140 rfl ?_
        refine Rq_imul dX9_goesDeeper_141 ?_
        refine Rq_iload dX9_goesDeeper_142 rfl ?_
        refine Rq_iadd dX9_goesDeeper_144 ?_
        refine Rq_iald (16 * L + q) dX9_goesDeeper_145 a55 (by omega) (by decide) (ixm 16 L q) ?_
        rw [ew]
        refine Rq_callVq [_, _] dX9_goesDeeper_146 clX9_122 rfl a43 (rp_puts (d + 1) hL (by omega) a43 a55 a56 n1) rfl rfl rfl (fun rv h3 hq => ?_)
        obtain ⟨rfl, F2, W3, Mn3, b55, b56, lv3, hw3, hm3⟩ := hq
        refine Rq_iinc [_, _, _, _, _, _] (1) dX9_goesDeeper_149 rfl (by decide) rfl rfl rfl ?_
        refine Rq_goto 108 dX9_goesDeeper_152 (by decide) ?_
        rw [nI_1]
        exact ih (q + 1) h3 W3 Mn3 (by omega) (F.trans F2) b55 b56 (by rw [e]; exact ⟨lv3, fun k hk => (hw3 k hk).trans (n2 k hk), fun k hk => (hm3 k hk).trans (n3 k hk)⟩)
  refine loop l.length 0 _ W (upd Mn (L + 1) 0) (by omega) (Fr.set (by decide)) (hNs (by decide) k55) (hS _ k56) ⟨⟨by rw [pk_us]; rfl, by simp [prtK], by simp [prtK, rw]⟩, fun _ _ => rfl, fun k hk => by rw [pk_un hk]⟩
end RF
