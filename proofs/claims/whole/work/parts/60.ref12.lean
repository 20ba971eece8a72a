/-! the reference's graph: enters -/
abbrev gC : List Nat := [43, 48, 49, 50, 51, 52, 53, 54, 55, 56, 57, 58, 59]
def conR (l : List Int32) : Prop := ∀ k, k < l.length → CC (vRow l) l.length 0 k
/-- the variable of a row's node, 0 of one that isn't joined -/
def dvR (l : List Int32) (v : Nat) : Prop := (conR l ∧ v = (mfR l 10).1) ∨ (¬ conR l ∧ v = 0)
theorem low_mask : ∀ n, n < 17 → ∀ k, k < 32 → bt ((1 : Int32) <<< (nI n &&& 31) - 1) k = decide (k < n) := by decide +kernel
theorem cnOK_all {l : List Int32} {x : Int32} (hl : l.length ≤ 16) (h : cnOK (vRow l) l.length 0 x) : x = (1 : Int32) <<< (nI l.length &&& 31) - 1 ↔ conR l := by
  constructor
  · intro e k hk
    have := h k (by omega)
    rw [e, low_mask _ (by omega) k (by omega), decide_eq_true_eq] at this
    exact (this.mp hk).2
  · intro hc
    apply b_ext
    intro k hk
    rw [low_mask _ (by omega) k hk]
    have := h k hk
    by_cases c : k < l.length
    · rw [decide_eq_true c]
      exact this.mpr ⟨c, hc k c⟩
    · rw [decide_eq_false c]
      exact ts_nt (fun z => c (this.mp z).1)
theorem off_s (T : List (List Int32)) (l : List Int32) : off (T ++ [l]) (T.length + 1) = off T T.length + l.length := by
  unfold off
  rw [List.take_of_length_le (by simp), List.take_of_length_le (Nat.le_refl _)]
  simp
theorem off_app {T : List (List Int32)} {l : List Int32} {i : Nat} (hi : i ≤ T.length) : off (T ++ [l]) i = off T i := by
  unfold off
  rw [List.take_append_of_le_length hi]
theorem getD_app {T N : List (List Int32)} {i : Nat} (hi : i < T.length) : (T ++ N).getD i [] = T.getD i [] := by
  rw [List.getD_eq_getElem?_getD, List.getD_eq_getElem?_getD, List.getElem?_append_left hi]
theorem getD_last {T : List (List Int32)} {l : List Int32} : (T ++ [l]).getD T.length [] = l := by
  rw [List.getD_eq_getElem?_getD, List.getElem?_append_right (Nat.le_refl _)]
  simp
theorem NT.add {B Z R H R' : Nat → Int32} {T : List (List Int32)} {l : List Int32} {j : Nat} (x : NT B Z R H T) (hT : T.length < 1024) (hl : l.length ≤ 16) (ho : off T T.length ≤ 16 * T.length) (hz : H ((hs l + j) % 16384) = 0) (hq : ∀ j', j' < j → ¬ H ((hs l + j') % 16384) = 0) (h1 : ∀ k, k < off T T.length → R' k = R k) (h2 : rw R' (off T T.length) l.length = l) (hoff : ∀ i, i < T.length → off T i + (T.getD i []).length ≤ off T T.length) :
    NT (upd B (T.length + 2) (nI (off T T.length))) (upd Z (T.length + 2) (nI l.length)) R' (upd H ((hs l + j) % 16384) (nI (T.length + 2))) (T ++ [l]) := by
  obtain ⟨x1, x2, x3, x4, x5⟩ := x
  have ll : (T ++ [l]).length = T.length + 1 := by simp
  have nz : ∀ i, i < 1024 → ¬ nI (i + 2) = 0 := fun i hi => nI_ne0 (by omega) (by omega)
  refine ⟨by omega, fun i hi => ?_, fun s hs' => ?_, fun i hi => ?_, fun s s' hs1 hs2 e e0 => ?_⟩
  · rw [ll] at hi
    by_cases c : i = T.length
    · subst c
      rw [getD_last, off_app (Nat.le_refl _), pk_us, pk_us]
      exact ⟨rfl, hl, rfl, ho, h2⟩
    · have hi' : i < T.length := by omega
      obtain ⟨y1, y2, y3, y4, y5⟩ := x2 i hi'
      rw [getD_app hi', off_app (by omega), pk_un (by omega), pk_un (by omega)]
      refine ⟨y1, y2, y3, y4, ?_⟩
      have := hoff i hi'
      rw [← y5]
      have e : (T.getD i []).length = (T.getD i []).length := rfl
      rw [rw_len]
      exact rw_cong (fun k hk => h1 _ (by omega))
  · by_cases c : s = (hs l + j) % 16384
    · rw [c, pk_us]
      exact Or.inr ⟨T.length, by omega, rfl⟩
    · rw [pk_un c]
      rcases x3 s hs' with z | ⟨i, hi, z⟩
      · exact Or.inl z
      · exact Or.inr ⟨i, by omega, z⟩
  · rw [ll] at hi
    by_cases c : i = T.length
    · subst c
      rw [getD_last]
      refine ⟨j, pk_us, fun j' hj' => ?_⟩
      by_cases c2 : (hs l + j') % 16384 = (hs l + j) % 16384
      · rw [c2, pk_us]; exact nz _ (by omega)
      · rw [pk_un c2]; exact hq j' hj'
    · have hi' : i < T.length := by omega
      obtain ⟨ji, y1, y2⟩ := x4 i hi'
      rw [getD_app hi']
      have ne : ¬ (hs (T.getD i []) + ji) % 16384 = (hs l + j) % 16384 := fun z => by
        rw [z, hz] at y1
        exact nz i (by omega) y1.symm
      refine ⟨ji, by rw [pk_un ne]; exact y1, fun j' hj' => ?_⟩
      by_cases c2 : (hs (T.getD i []) + j') % 16384 = (hs l + j) % 16384
      · rw [c2, pk_us]; exact nz _ (by omega)
      · rw [pk_un c2]; exact y2 j' hj'
  · by_cases c1 : s = (hs l + j) % 16384
    · by_cases c2 : s' = (hs l + j) % 16384
      · rw [c1, c2]
      · exfalso
        rw [c1, pk_us, pk_un c2] at e
        rcases x3 s' hs2 with z | ⟨i, hi, z⟩
        · rw [z] at e; exact nz T.length (by omega) e
        · rw [z] at e
          have := (nI_eq (by omega) (by omega)).mp e
          omega
    · by_cases c2 : s' = (hs l + j) % 16384
      · exfalso
        rw [c2, pk_us, pk_un c1] at e
        rcases x3 s hs1 with z | ⟨i, hi, z⟩
        · rw [z] at e; exact nz T.length (by omega) e.symm
        · rw [z] at e
          have := (nI_eq (by omega) (by omega)).mp e
          omega
      · rw [pk_un c1, pk_un c2] at e
        rw [pk_un c1] at e0
        exact x5 s s' hs1 hs2 e e0
section RF
variable {h0 h : Hp} {sm ln ic rt mm il sp rdm : Int32}
/-- the graph's cells while it is built -/
def GS (sm ln ic rt mm il sp rdm : Int32) (h0 h : Hp) (T : List (List Int32)) (vo co dn W Mn NA GA DA : Nat → Int32) (hf ht : Int32) : Prop :=
  Fr gC h0 h ∧ ∃ B Z R H, h[43]? = some (obM sm ln ic (nI (T.length + 2)) (nI (off T T.length)) hf ht rt mm il sp rdm) ∧ NT B Z R H T ∧ off T T.length ≤ 16 * T.length ∧ (∀ i, i < T.length → off T i + (T.getD i []).length ≤ off T T.length) ∧ h[48]? = some (aI 4096 B) ∧ h[49]? = some (aI 4096 Z) ∧ h[50]? = some (aI 4096 vo) ∧ h[51]? = some (aI 4096 co) ∧ h[52]? = some (aI 4096 dn) ∧ h[53]? = some (aI 65536 R) ∧ h[54]? = some (aI 16384 H) ∧ h[55]? = some (aI 416 W) ∧ h[56]? = some (aI 26 Mn) ∧ h[57]? = some (aI 26 NA) ∧ h[58]? = some (aI 26 GA) ∧ h[59]? = some (aI 26 DA)
variable {T : List (List Int32)} {vo co dn W Mn NA GA DA : Nat → Int32} {hf ht : Int32}
/-- what enters leaves -/
def enP (sm ln ic rt mm il sp rdm : Int32) (h0 : Hp) (T : List (List Int32)) (vo co dn W Mn NA GA DA : Nat → Int32) (hf ht : Int32) (L : Nat) (l : List Int32) (r : Option Value) (h' : Hp) : Prop :=
  (l = [] ∧ r = some (.int (nI 1)) ∧ GS sm ln ic rt mm il sp rdm h0 h' T vo co dn W Mn NA GA DA hf 1) ∨
  (l ≠ [] ∧ l.getD 0 0 = 0 ∧ r = some (.int (nI 0)) ∧ GS sm ln ic rt mm il sp rdm h0 h' T vo co dn W Mn NA GA DA 1 ht) ∨
  (l ≠ [] ∧ ¬ l.getD 0 0 = 0 ∧ ∃ i, i < T.length ∧ T.getD i [] = l ∧ r = some (.int (nI (i + 2))) ∧ GS sm ln ic rt mm il sp rdm h0 h' T vo co dn W Mn NA GA DA hf ht) ∨
  (l ≠ [] ∧ ¬ l.getD 0 0 = 0 ∧ l ∉ T ∧ r = some (.int (-1)) ∧ ∃ v, dvR l v ∧ GS sm ln ic rt mm il sp rdm h0 h' (T ++ [l]) (upd vo (T.length + 2) (nI v)) (upd co (T.length + 2) (if 0 < v then 1 else 0)) dn W Mn (upd NA L (nI (T.length + 2))) (upd GA L 0) (upd DA L 0) hf ht)
theorem rp_enters (d : Nat) {L : Nat} {l : List Int32} (hL : L < 26) (hvl : ∀ c ∈ l, vW c) (lv : Lv W Mn L l) (hT : T.length < 1024) (g : GS sm ln ic rt mm il sp rdm h0 h T vo co dn W Mn NA GA DA hf ht) :
    Mq mX9_enters (d + 2) [.ref 43, .int (nI L)] h (enP sm ln ic rt mm il sp rdm h0 T vo co dn W Mn NA GA DA hf ht L l) := by
  have ll := lv.2.1
  have g0 := g
  obtain ⟨F, B, Z, R, H, k43, nt, ho, hoff, k48, k49, k50, k51, k52, k53, k54, k55, k56, k57, k58, k59⟩ := g
  refine Mq_of [_, _, _, _, _] (by decide +kernel) rfl rfl ?_
  by_cases c0 : l = []
  · have e0 : Mn L = 0 := by rw [lv.1, c0]; rfl
    refine Rq_aload_n dX9_enters_0 rfl ?_
    refine Rq_get dX9_enters_1 flX9_47 k43 rfl ?_
    refine Rq_iload_n dX9_enters_4 rfl ?_
    refine Rq_iald L dX9_enters_5 k56 hL (by decide) rfl ?_
    refine Rq_if_ne_f 16 dX9_enters_6 (by decide) e0 ?_
    refine Rq_aload_n dX9_enters_9 rfl ?_
    refine Rq_iconst (1) dX9_enters_10 (by decide) ?_
    refine Rq_put [_, _, _, _, _, _, _, _, _, _, _, _, _, _, _, _, _, _, _, _, _, _, _, _, _, _, _, _, _, _] dX9_enters_11 fpX9_126 k43 rfl okv_1 rfl ?_
    refine Rq_iconst (1) dX9_enters_14 (by decide) ?_
    refine Rq_iret dX9_enters_15 rfl ?_
    refine Or.inl ⟨c0, rfl, ?_⟩
    have F1 : Fr [43] h (h.set 43 (obM sm ln ic (nI (T.length + 2)) (nI (off T T.length)) hf 1 rt mm il sp rdm)) := Fr.set (by decide)
    exact ⟨F.trans (F1.mono (by decide)), B, Z, R, H, hS _ k43, nt, ho, hoff, F1.at (by decide) k48, F1.at (by decide) k49, F1.at (by decide) k50, F1.at (by decide) k51, F1.at (by decide) k52, F1.at (by decide) k53, F1.at (by decide) k54, F1.at (by decide) k55, F1.at (by decide) k56, F1.at (by decide) k57, F1.at (by decide) k58, F1.at (by decide) k59⟩
  · have l0 : 0 < l.length := List.length_pos_iff.mpr c0
    have e0 : ¬ Mn L = 0 := by rw [lv.1]; exact nI_ne0 l0 (by omega)
    have ew := lv.at l0
    rw [Nat.add_zero] at ew
    by_cases c1 : l.getD 0 0 = 0
    · refine Rq_aload_n dX9_enters_0 rfl ?_
      refine Rq_get dX9_enters_1 flX9_47 k43 rfl ?_
      refine Rq_iload_n dX9_enters_4 rfl ?_
      refine Rq_iald L dX9_enters_5 k56 hL (by decide) rfl ?_
      refine Rq_if_ne_t 16 dX9_enters_6 (by decide) e0 ?_
      refine Rq_aload_n dX9_enters_16 rfl ?_
      refine Rq_get dX9_enters_17 flX9_44 k43 rfl ?_
      refine Rq_bipush (16) dX9_enters_20 (by decide) ?_
      refine Rq_iload_n dX9_enters_22 rfl ?_
      refine Rq_imul dX9_enters_23 ?_
      refine Rq_iald (16 * L) dX9_enters_24 k55 (by omega) (by decide) (pk_mul 16 L) ?_
      refine Rq_if_ne_f 35 dX9_enters_25 (by decide) (by rw [ew]; exact c1) ?_
      refine Rq_aload_n dX9_enters_28 rfl ?_
      refine Rq_iconst (1) dX9_enters_29 (by decide) ?_
      refine Rq_put [_, _, _, _, _, _, _, _, _, _, _, _, _, _, _, _, _, _, _, _, _, _, _, _, _, _, _, _, _, _] dX9_enters_30 fpX9_129 k43 rfl okv_1 rfl ?_
      refine Rq_iconst (0) dX9_enters_33 (by decide) ?_
      refine Rq_iret dX9_enters_34 rfl ?_
      refine Or.inr (Or.inl ⟨c0, c1, rfl, ?_⟩)
      have F1 : Fr [43] h (h.set 43 (obM sm ln ic (nI (T.length + 2)) (nI (off T T.length)) 1 ht rt mm il sp rdm)) := Fr.set (by decide)
      exact ⟨F.trans (F1.mono (by decide)), B, Z, R, H, hS _ k43, nt, ho, hoff, F1.at (by decide) k48, F1.at (by decide) k49, F1.at (by decide) k50, F1.at (by decide) k51, F1.at (by decide) k52, F1.at (by decide) k53, F1.at (by decide) k54, F1.at (by decide) k55, F1.at (by decide) k56, F1.at (by decide) k57, F1.at (by decide) k58, F1.at (by decide) k59⟩
    · refine Rq_aload_n dX9_enters_0 rfl ?_
      refine Rq_get dX9_enters_1 flX9_47 k43 rfl ?_
      refine Rq_iload_n dX9_enters_4 rfl ?_
      refine Rq_iald L dX9_enters_5 k56 hL (by decide) rfl ?_
      refine Rq_if_ne_t 16 dX9_enters_6 (by decide) e0 ?_
      refine Rq_aload_n dX9_enters_16 rfl ?_
      refine Rq_get dX9_enters_17 flX9_44 k43 rfl ?_
      refine Rq_bipush (16) dX9_enters_20 (by decide) ?_
      refine Rq_iload_n dX9_enters_22 rfl ?_
      refine Rq_imul dX9_enters_23 ?_
      refine Rq_iald (16 * L) dX9_enters_24 k55 (by omega) (by decide) (pk_mul 16 L) ?_
      refine Rq_if_ne_t 35 dX9_enters_25 (by decide) (by rw [ew]; exact c1) ?_
      refine Rq_aload_n dX9_enters_35 rfl ?_
      refine Rq_iload_n dX9_enters_36 rfl ?_
      refine Rq_callVq [_] dX9_enters_37 clX9_132 rfl k43 (rp_finds (d + 1) hL hvl l0 nt k43 k48 k49 k53 k54 k55 k56 lv) rfl rfl rfl (fun rv h1 hq => ?_)
      obtain ⟨rfl, hq⟩ := hq
      rcases hq with ⟨i, hi, ei, rfl⟩ | ⟨hl, j, rfl, hz, hj⟩
      · refine Rq_istore_n [_, _, _, _, _] dX9_enters_40 rfl rfl rfl ?_
        refine Rq_iload_n dX9_enters_41 rfl ?_
        refine Rq_if_lt_f 47 dX9_enters_42 (by decide) (nI_pos (by omega)) ?_
        refine Rq_iload_n dX9_enters_45 rfl ?_
        refine Rq_iret dX9_enters_46 rfl ?_
        exact Or.inr (Or.inr (Or.inl ⟨c0, c1, i, hi, ei, rfl, g0⟩))
      · have sl : (hs l + j) % 16384 < 16384 := Nat.mod_lt _ (by decide)
        generalize hsl : (hs l + j) % 16384 = s at *
        have t1 : (-1 - nI s).toInt = -1 - (s : Int) := by
          rw [fb_subI (by rw [nI_toInt (by omega), show (-1 : Int32).toInt = -1 from rfl]; omega) (by rw [nI_toInt (by omega), show (-1 : Int32).toInt = -1 from rfl]; omega), nI_toInt (by omega)]
          rfl
        have lt0 : -1 - nI s < 0 := by
          rw [Int32.lt_iff_toInt_lt, t1, show (0 : Int32).toInt = 0 from rfl]
          omega
        have eqs : (-1 : Int32) - (-1 - nI s) = nI s := by
          apply Int32.toInt_inj.mp
          rw [fb_subI (by rw [t1, show (-1 : Int32).toInt = -1 from rfl]; omega) (by rw [t1, show (-1 : Int32).toInt = -1 from rfl]; omega), t1, nI_toInt (by omega), show (-1 : Int32).toInt = -1 from rfl]
          omega
        refine Rq_istore_n [_, _, _, _, _] dX9_enters_40 rfl rfl rfl ?_
        refine Rq_iload_n dX9_enters_41 rfl ?_
        refine Rq_if_lt_t 47 dX9_enters_42 (by decide) lt0 ?_
        refine Rq_aload_n dX9_enters_47 rfl ?_
        refine Rq_get dX9_enters_48 flX9_135 k43 rfl ?_
        refine Rq_istore_n [_, _, _, _, _] dX9_enters_51 rfl rfl rfl ?_
        refine Rq_aload_n dX9_enters_52 rfl ?_
        refine Rq_dup dX9_enters_53 rfl ?_
        refine Rq_get dX9_enters_54 flX9_135 k43 rfl ?_
        refine Rq_iconst (1) dX9_enters_57 (by decide) ?_
        refine Rq_iadd dX9_enters_58 ?_
        refine Rq_put [_, _, _, _, _, _, _, _, _, _, _, _, _, _, _, _, _, _, _, _, _, _, _, _, _, _, _, _, _, _] dX9_enters_59 fpX9_135 k43 rfl (okv_i _) rfl ?_
        rw [nI_1]
        have F1 : Fr [43] h1 (h1.set 43 (obM sm ln ic (nI (T.length + 2 + 1)) (nI (off T T.length)) hf ht rt mm il sp rdm)) := Fr.set (by decide)
        have a43 := hS (obM sm ln ic (nI (T.length + 2 + 1)) (nI (off T T.length)) hf ht rt mm il sp rdm) k43
        refine Rq_aload_n dX9_enters_62 rfl ?_
        refine Rq_get dX9_enters_63 flX9_41 a43 rfl ?_
        refine Rq_iconst (-1) dX9_enters_66 (by decide) ?_
        refine Rq_iload_n dX9_enters_67 rfl ?_
        refine Rq_isub dX9_enters_68 ?_
        rw [eqs]
        refine Rq_iload_n dX9_enters_69 rfl ?_
        refine Rq_iast s dX9_enters_70 (F1.at (by decide) k54) sl (by decide) rfl ?_
        have F2 : Fr [43, 54] h1 ((h1.set 43 (obM sm ln ic (nI (T.length + 2 + 1)) (nI (off T T.length)) hf ht rt mm il sp rdm)).set 54 (aI 16384 (upd H s (nI (T.length + 2))))) := Fr.trans (Fr.set (by decide)) (Fr.set (by decide))
        have b43 := hNs (e' := aI 16384 (upd H s (nI (T.length + 2)))) (by decide : (54 : Nat) ≠ 43) a43
        have b54 := hS (aI 16384 (upd H s (nI (T.length + 2)))) (F1.at (by decide) k54)
        generalize (h1.set 43 (obM sm ln ic (nI (T.length + 2 + 1)) (nI (off T T.length)) hf ht rt mm il sp rdm)).set 54 (aI 16384 (upd H s (nI (T.length + 2)))) = h2 at F2 b43 b54 ⊢
        refine Rq_aload_n dX9_enters_71 rfl ?_
        refine Rq_get dX9_enters_72 flX9_22 b43 rfl ?_
        refine Rq_iload_n dX9_enters_75 rfl ?_
        refine Rq_aload_n dX9_enters_76 rfl ?_
        refine Rq_get dX9_enters_77 flX9_138 b43 rfl ?_
        refine Rq_iast (T.length + 2) dX9_enters_80 (F2.at (by decide) k48) (by omega) (by decide) rfl ?_
        have F3 : Fr [43, 48, 54] h1 (h2.set 48 (aI 4096 (upd B (T.length + 2) (nI (off T T.length))))) := (F2.mono (by decide)).trans (Fr.set (by decide))
        have d43 := hNs (e' := aI 4096 (upd B (T.length + 2) (nI (off T T.length)))) (by decide : (48 : Nat) ≠ 43) b43
        have d54 := hNs (e' := aI 4096 (upd B (T.length + 2) (nI (off T T.length)))) (by decide : (48 : Nat) ≠ 54) b54
        have d48 := hS (aI 4096 (upd B (T.length + 2) (nI (off T T.length)))) (F2.at (by decide) k48)
        generalize h2.set 48 (aI 4096 (upd B (T.length + 2) (nI (off T T.length)))) = h3 at F3 d43 d54 d48 ⊢
        refine Rq_aload_n dX9_enters_81 rfl ?_
        refine Rq_get dX9_enters_82 flX9_25 d43 rfl ?_
        refine Rq_iload_n dX9_enters_85 rfl ?_
        refine Rq_aload_n dX9_enters_86 rfl ?_
        refine Rq_get dX9_enters_87 flX9_47 d43 rfl ?_
        refine Rq_iload_n dX9_enters_90 rfl ?_
        refine Rq_iald L dX9_enters_91 (F3.at (by decide) k56) hL (by decide) rfl ?_
        rw [lv.1]
        refine Rq_iast (T.length + 2) dX9_enters_92 (F3.at (by decide) k49) (by omega) (by decide) rfl ?_
        have F4 : Fr [43, 48, 49, 54] h1 (h3.set 49 (aI 4096 (upd Z (T.length + 2) (nI l.length)))) := (F3.mono (by decide)).trans (Fr.set (by decide))
        have e43 := hNs (e' := aI 4096 (upd Z (T.length + 2) (nI l.length))) (by decide : (49 : Nat) ≠ 43) d43
        have e54 := hNs (e' := aI 4096 (upd Z (T.length + 2) (nI l.length))) (by decide : (49 : Nat) ≠ 54) d54
        have e48 := hNs (e' := aI 4096 (upd Z (T.length + 2) (nI l.length))) (by decide : (49 : Nat) ≠ 48) d48
        have e49 := hS (aI 4096 (upd Z (T.length + 2) (nI l.length))) (F3.at (by decide) k49)
        generalize h3.set 49 (aI 4096 (upd Z (T.length + 2) (nI l.length))) = h4 at F4 e43 e54 e48 e49 ⊢
        refine Rq_iconst (0) dX9_enters_93 (by decide) ?_
        refine Rq_istore [_, _, _, _, _] dX9_enters_94 rfl rfl rfl ?_
        have loop : ∀ (j i : Nat) (h5 : Hp) (R5 : Nat → Int32), i + j = l.length → Fr [43, 48, 49, 53, 54] h1 h5 → h5[43]? = some (obM sm ln ic (nI (T.length + 2 + 1)) (nI (off T T.length + i)) hf ht rt mm il sp rdm) → h5[48]? = some (aI 4096 (upd B (T.length + 2) (nI (off T T.length)))) → h5[49]? = some (aI 4096 (upd Z (T.length + 2) (nI l.length))) → h5[54]? = some (aI 16384 (upd H s (nI (T.length + 2)))) → h5[53]? = some (aI 65536 R5) → (∀ k, k < off T T.length → R5 k = R k) → rw R5 (off T T.length) i = l.take i →
            Rq mX9_enters (d + 2) 96 [.ref 43, .int (nI L), .int (-1 - nI s), .int (nI (T.length + 2)), .int (nI i)] [] h5 (enP sm ln ic rt mm il sp rdm h0 T vo co dn W Mn NA GA DA hf ht L l) := by
          intro j
          induction j with
          | zero =>
            intro i h5 R5 hi F5 z43 z48 z49 z54 z53 hR1 hR2
            have e : i = l.length := by omega
            subst e
            rw [List.take_length] at hR2
            have z55 := F5.at (by decide) k55
            have z56 := F5.at (by decide) k56
            refine Rq_iload dX9_enters_96 rfl ?_
            refine Rq_aload_n dX9_enters_98 rfl ?_
            refine Rq_get dX9_enters_99 flX9_47 z43 rfl ?_
            refine Rq_iload_n dX9_enters_102 rfl ?_
            refine Rq_iald L dX9_enters_103 z56 hL (by decide) rfl ?_
            refine Rq_icmp_ge_t 144 dX9_enters_104 (by decide) (by rw [lv.1]; exact nI_le (Nat.le_refl _) (by omega)) ?_
            refine Rq_aload_n dX9_enters_144 rfl ?_
            refine Rq_get dX9_enters_145 flX9_28 z43 rfl ?_
            refine Rq_iload_n dX9_enters_148 rfl ?_
            refine Rq_aload_n dX9_enters_149 rfl ?_
            refine Rq_iload_n dX9_enters_150 rfl ?_
            refine Rq_iconst (0) dX9_enters_151 (by decide) ?_
            refine Rq_callVq [_, _] dX9_enters_152 clX9_141 rfl z43 (rp_connected (d + 0) (k0 := 0) hL z43 z55 z56 lv l0 (b_0 0) (fun k hk => by omega)) rfl rfl rfl (fun rv h6 hq => ?_)
            obtain ⟨rfl, x, rfl, cx⟩ := hq
            have K : ∀ v : Nat, dvR l v → v ≤ 10 → Rq mX9_enters (d + 2) 177 [.ref 43, .int (nI L), .int (-1 - nI s), .int (nI (T.length + 2)), .int (nI l.length)] [.int (nI v), .int (nI (T.length + 2)), .ref 50] h6 (enP sm ln ic rt mm il sp rdm h0 T vo co dn W Mn NA GA DA hf ht L l) := by
              intro v hv hv10
              have z50 := F5.at (by decide) k50
              refine Rq_iast (T.length + 2) dX9_enters_177 z50 (by omega) (by decide) rfl ?_
              have F6 : Fr [43, 48, 49, 50, 53, 54] h1 (h6.set 50 (aI 4096 (upd vo (T.length + 2) (nI v)))) := (F5.mono (by decide)).trans (Fr.set (by decide))
              have G6 : Fr [50] h6 (h6.set 50 (aI 4096 (upd vo (T.length + 2) (nI v)))) := Fr.set (by decide)
              have y50 := hS (aI 4096 (upd vo (T.length + 2) (nI v))) z50
              have y43 := G6.at (by decide) z43
              have fin : ∀ ch : Int32, ch = (if 0 < v then 1 else 0) → Rq mX9_enters (d + 2) 197 [.ref 43, .int (nI L), .int (-1 - nI s), .int (nI (T.length + 2)), .int (nI l.length)] [.int ch, .int (nI (T.length + 2)), .ref 51] (h6.set 50 (aI 4096 (upd vo (T.length + 2) (nI v)))) (enP sm ln ic rt mm il sp rdm h0 T vo co dn W Mn NA GA DA hf ht L l) := by
                intro ch hch
                refine Rq_iast (T.length + 2) dX9_enters_197 (F6.at (by decide) k51) (by omega) (by decide) rfl ?_
                have w43 := hNs (e' := aI 4096 (upd co (T.length + 2) ch)) (by decide : (51 : Nat) ≠ 43) y43
                refine Rq_aload_n dX9_enters_198 rfl ?_
                refine Rq_get dX9_enters_199 flX9_50 w43 rfl ?_
                refine Rq_iload_n dX9_enters_202 rfl ?_
                refine Rq_iload_n dX9_enters_203 rfl ?_
                refine Rq_iast L dX9_enters_204 (hNs (by decide) (F6.at (by decide) k57)) hL (by decide) rfl ?_
                have v43 := hNs (e' := aI 26 (upd NA L (nI (T.length + 2)))) (by decide : (57 : Nat) ≠ 43) w43
                refine Rq_aload_n dX9_enters_205 rfl ?_
                refine Rq_get dX9_enters_206 flX9_53 v43 rfl ?_
                refine Rq_iload_n dX9_enters_209 rfl ?_
                refine Rq_iconst (0) dX9_enters_210 (by decide) ?_
                refine Rq_iast L dX9_enters_211 (hNs (by decide) (hNs (by decide) (F6.at (by decide) k58))) hL (by decide) rfl ?_
                have u43 := hNs (e' := aI 26 (upd GA L 0)) (by decide : (58 : Nat) ≠ 43) v43
                refine Rq_aload_n dX9_enters_212 rfl ?_
                refine Rq_get dX9_enters_213 flX9_56 u43 rfl ?_
                refine Rq_iload_n dX9_enters_216 rfl ?_
                refine Rq_iconst (0) dX9_enters_217 (by decide) ?_
                refine Rq_iast L dX9_enters_218 (hNs (by decide) (hNs (by decide) (hNs (by decide) (F6.at (by decide) k59)))) hL (by decide) rfl ?_
                refine Rq_iconst (-1) dX9_enters_219 (by decide) ?_
                refine Rq_iret dX9_enters_220 rfl ?_
                have t43 := hNs (e' := aI 26 (upd DA L 0)) (by decide : (59 : Nat) ≠ 43) u43
                refine Or.inr (Or.inr (Or.inr ⟨c0, c1, hl, rfl, v, hv, ?_⟩))
                have FG1 : Fr [51, 57, 58, 59] (h6.set 50 (aI 4096 (upd vo (T.length + 2) (nI v)))) (((((h6.set 50 (aI 4096 (upd vo (T.length + 2) (nI v)))).set 51 (aI 4096 (upd co (T.length + 2) ch))).set 57 (aI 26 (upd NA L (nI (T.length + 2))))).set 58 (aI 26 (upd GA L 0))).set 59 (aI 26 (upd DA L 0))) := Fr.trans (Fr.trans (Fr.trans (Fr.set (by decide)) (Fr.set (by decide))) (Fr.set (by decide))) (Fr.set (by decide))
                have q51 := F6.at (by decide) k51
                have q57 := F6.at (by decide) k57
                have q58 := F6.at (by decide) k58
                have q59 := F6.at (by decide) k59
                have el : (T ++ [l]).length = T.length + 1 := by simp
                refine ⟨(F.trans (F6.mono (by decide))).trans (FG1.mono (by decide)), _, _, R5, _, ?_, NT.add (j := j) nt hT ll ho (by rw [hsl]; exact hz) hj hR1 hR2 hoff, ?_, ?_, FG1.at (by decide) (G6.at (by decide) z48), FG1.at (by decide) (G6.at (by decide) z49), FG1.at (by decide) y50, ?_, FG1.at (by decide) (F6.at (by decide) k52), FG1.at (by decide) (G6.at (by decide) z53), ?_, FG1.at (by decide) (F6.at (by decide) k55), FG1.at (by decide) (F6.at (by decide) k56), ?_, ?_, ?_⟩
                · rw [el, off_s]; exact t43
                · rw [el, off_s]; omega
                · intro i hi
                  rw [el] at hi
                  rw [el, off_s]
                  by_cases c : i = T.length
                  · subst c; rw [off_app (Nat.le_refl _), getD_last]; omega
                  · rw [off_app (by omega), getD_app (by omega)]
                    have := hoff i (by omega)
                    omega
                · rw [← hch]
                  exact hNs (by decide) (hNs (by decide) (hNs (by decide) (hS _ q51)))
                · rw [hsl]; exact FG1.at (by decide) (G6.at (by decide) z54)
                · exact hNs (by decide) (hNs (by decide) (hS _ (hNs (by decide) q57)))
                · exact hNs (by decide) (hS _ (hNs (by decide) (hNs (by decide) q58)))
                · exact hS _ (hNs (by decide) (hNs (by decide) (hNs (by decide) q59)))
              by_cases v0 : 0 < v
              · refine Rq_aload_n dX9_enters_178 rfl ?_
                refine Rq_get dX9_enters_179 flX9_31 y43 rfl ?_
                refine Rq_iload_n dX9_enters_182 rfl ?_
                refine Rq_aload_n dX9_enters_183 rfl ?_
                refine Rq_get dX9_enters_184 flX9_28 y43 rfl ?_
                refine Rq_iload_n dX9_enters_187 rfl ?_
                refine Rq_iald (T.length + 2) dX9_enters_188 y50 (by omega) (by decide) rfl ?_
                refine Rq_if_le_f 196 dX9_enters_189 (by decide) (by rw [pk_us]; exact nI_nle v0 (by omega)) ?_
                refine Rq_iconst (1) dX9_enters_192 (by decide) ?_
                refine Rq_goto 197 dX9_enters_193 (by decide) ?_
                exact fin 1 (by rw [if_pos v0])
              · refine Rq_aload_n dX9_enters_178 rfl ?_
                refine Rq_get dX9_enters_179 flX9_31 y43 rfl ?_
                refine Rq_iload_n dX9_enters_182 rfl ?_
                refine Rq_aload_n dX9_enters_183 rfl ?_
                refine Rq_get dX9_enters_184 flX9_28 y43 rfl ?_
                refine Rq_iload_n dX9_enters_187 rfl ?_
                refine Rq_iald (T.length + 2) dX9_enters_188 y50 (by omega) (by decide) rfl ?_
                refine Rq_if_le_t 196 dX9_enters_189 (by decide) (by rw [pk_us]; exact nI_le (b := 0) (by omega) (by omega)) ?_
                refine Rq_iconst (0) dX9_enters_196 (by decide) ?_
                exact fin 0 (by rw [if_neg v0])
            refine Rq_iconst (1) dX9_enters_155 (by decide) ?_
            refine Rq_aload_n dX9_enters_156 rfl ?_
            refine Rq_get dX9_enters_157 flX9_47 z43 rfl ?_
            refine Rq_iload_n dX9_enters_160 rfl ?_
            refine Rq_iald L dX9_enters_161 z56 hL (by decide) rfl ?_
            rw [lv.1]
            by_cases cc : conR l
            · refine Rq_ishl dX9_enters_162 ?_
              refine Rq_iconst (1) dX9_enters_163 (by decide) ?_
              refine Rq_isub dX9_enters_164 ?_
              refine Rq_icmp_ne_f 176 dX9_enters_165 (by decide) ((cnOK_all ll cx).mpr cc) ?_
              refine Rq_aload_n dX9_enters_168 rfl ?_
              refine Rq_iload_n dX9_enters_169 rfl ?_
              refine Rq_callVq [_] dX9_enters_170 clX9_145 rfl z43 (rp_deciding (d + 0) hL z43 z55 z56 lv) rfl rfl rfl (fun rv h7 hq => ?_)
              obtain ⟨rfl, rfl⟩ := hq
              refine Rq_goto 177 dX9_enters_173 (by decide) ?_
              exact K _ (Or.inl ⟨cc, rfl⟩) (mfR_le l 10).1
            · refine Rq_ishl dX9_enters_162 ?_
              refine Rq_iconst (1) dX9_enters_163 (by decide) ?_
              refine Rq_isub dX9_enters_164 ?_
              refine Rq_icmp_ne_t 176 dX9_enters_165 (by decide) (fun z => cc ((cnOK_all ll cx).mp z)) ?_
              refine Rq_iconst (0) dX9_enters_176 (by decide) ?_
              exact K 0 (Or.inr ⟨cc, rfl⟩) (by decide)
          | succ j ih =>
            intro i h5 R5 hi F5 z43 z48 z49 z54 z53 hR1 hR2
            have ew := lv.at (show i < l.length by omega)
            have z55 := F5.at (by decide) k55
            have z56 := F5.at (by decide) k56
            refine Rq_iload dX9_enters_96 rfl ?_
            refine Rq_aload_n dX9_enters_98 rfl ?_
            refine Rq_get dX9_enters_99 flX9_47 z43 rfl ?_
            refine Rq_iload_n dX9_enters_102 rfl ?_
            refine Rq_iald L dX9_enters_103 z56 hL (by decide) rfl ?_
            refine Rq_icmp_ge_f 144 dX9_enters_104 (by decide) (by rw [lv.1]; exact nI_ge (by omega) (by omega)) ?_
            refine Rq_aload_n dX9_enters_107 rfl ?_
            refine Rq_get dX9_enters_108 flX9_38 z43 rfl ?_
            refine Rq_aload_n dX9_enters_111 rfl ?_
            refine Rq_get dX9_enters_112 flX9_138 z43 rfl ?_
            refine Rq_aload_n dX9_enters_115 rfl ?_
            refine Rq_get dX9_enters_116 flX9_44 z43 rfl ?_
            refine Rq_bipush (16) dX9_enters_119 (by decide) ?_
            refine Rq_iload_n dX9_enters_121 rfl ?_
            refine Rq_imul dX9_enters_122 ?_
            refine Rq_iload dX9_enters_123 rfl ?_
            refine Rq_iadd dX9_enters_125 ?_
            refine Rq_iald (16 * L + i) dX9_enters_126 z55 (by omega) (by decide) (ixm 16 L i) ?_
            rw [ew]
            refine Rq_iast (off T T.length + i) dX9_enters_127 z53 (by omega) (by decide) rfl ?_
            have y43 := hNs (e' := aI 65536 (upd R5 (off T T.length + i) (l.getD i 0))) (by decide : (53 : Nat) ≠ 43) z43
            refine Rq_aload_n dX9_enters_128 rfl ?_
            refine Rq_dup dX9_enters_129 rfl ?_
            refine Rq_get dX9_enters_130 flX9_138 y43 rfl ?_
            refine Rq_iconst (1) dX9_enters_133 (by decide) ?_
            refine Rq_iadd dX9_enters_134 ?_
            refine Rq_put [_, _, _, _, _, _, _, _, _, _, _, _, _, _, _, _, _, _, _, _, _, _, _, _, _, _, _, _, _, _] dX9_enters_135 fpX9_138 y43 rfl (okv_i _) rfl ?_
            rw [nI_1]
            refine Rq_iinc [_, _, _, _, _] (1) dX9_enters_138 rfl (by decide) rfl rfl rfl ?_
            refine Rq_goto 96 dX9_enters_141 (by decide) ?_
            rw [nI_1]
            refine ih (i + 1) _ (upd R5 (off T T.length + i) (l.getD i 0)) (by omega) (F5.trans (Fr.trans (Fr.set (by decide)) (Fr.set (by decide)))) (hS _ y43) (hNs (by decide) (hNs (by decide) z48)) (hNs (by decide) (hNs (by decide) z49)) (hNs (by decide) (hNs (by decide) z54)) (hNs (by decide) (hS _ z53)) (fun k hk => ?_) ?_
            · rw [pk_un (by omega)]; exact hR1 k hk
            · have er : rw (upd R5 (off T T.length + i) (l.getD i 0)) (off T T.length) i = rw R5 (off T T.length) i := rw_cong (fun k hk => pk_un (by omega))
              rw [rw_s, take_s l (by omega), pk_us, er, hR2]
        exact loop l.length 0 h4 R (by omega) (F4.mono (by decide)) (by rw [Nat.add_zero]; exact e43) e48 e49 e54 (F4.at (by decide) k53) (fun _ _ => rfl) (by simp [rw])
end RF
