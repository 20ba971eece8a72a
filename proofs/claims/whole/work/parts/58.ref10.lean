/-! the reference's graph: connected, deciding -/
/-- joined by shared variables, V the variables of each of n places -/
def CCn (V : Nat → Int32) (n i : Nat) : Nat → Nat → Prop
  | 0, k => k = i
  | m + 1, k => ∃ j, CCn V n i m j ∧ k < n ∧ ∃ b, b < 32 ∧ bt (V j) b = true ∧ bt (V k) b = true
def CC (V : Nat → Int32) (n i k : Nat) : Prop := ∃ m, CCn V n i m k
theorem CC.rf {V : Nat → Int32} {n i : Nat} : CC V n i i := ⟨0, rfl⟩
theorem CC.st {V : Nat → Int32} {n i j k : Nat} (x : CC V n i j) (hk : k < n) (hs : ∃ b, b < 32 ∧ bt (V j) b = true ∧ bt (V k) b = true) : CC V n i k := by
  obtain ⟨m, x⟩ := x
  exact ⟨m + 1, j, x, hk, hs⟩
theorem CC.ind {V : Nat → Int32} {n i : Nat} {P : Nat → Prop} (h0 : P i) (h1 : ∀ j k, CC V n i j → P j → k < n → (∃ b, b < 32 ∧ bt (V j) b = true ∧ bt (V k) b = true) → P k) {k : Nat} (x : CC V n i k) : P k := by
  obtain ⟨m, x⟩ := x
  induction m generalizing k with
  | zero => rw [show k = i from x]; exact h0
  | succ m ih =>
    obtain ⟨j, x1, x2, x3⟩ := x
    exact h1 j k ⟨m, x1⟩ (ih x1) x2 x3
def vRow (l : List Int32) (j : Nat) : Int32 := rVars (l.getD j 0)
/-- the set x of places: those joined with k0 -/
def cnOK (V : Nat → Int32) (n k0 : Nat) (x : Int32) : Prop := ∀ k, k < 32 → (bt x k = true ↔ k < n ∧ CC V n k0 k)
/-- while it is being reached -/
def cnI (V : Nat → Int32) (n k0 : Nat) (st rc : Int32) : Prop :=
  (∀ k, k < 32 → bt st k = true → k < n ∧ CC V n k0 k) ∧ (∀ b, b < 32 → (bt rc b = true ↔ ∃ k, k < n ∧ bt st k = true ∧ bt (V k) b = true)) ∧ bt st k0 = true
theorem cnI_0 {V : Nat → Int32} {n k0 : Nat} (h : k0 < n) (hn : n ≤ 16) : cnI V n k0 ((1 : Int32) <<< (nI k0 &&& 31)) (V k0) := by
  refine ⟨fun k hk hb => ?_, fun b hb => ?_, ?_⟩
  · rw [one_bit (by omega) hk, decide_eq_true_eq] at hb
    subst hb
    exact ⟨h, CC.rf⟩
  · constructor
    · intro z
      exact ⟨k0, h, by rw [one_bit (by omega) (by omega)]; simp, z⟩
    · rintro ⟨k, h1, h2, h3⟩
      rw [one_bit (by omega) (by omega), decide_eq_true_eq] at h2
      subst h2
      exact h3
  · rw [one_bit (by omega) (by omega)]; simp
theorem cnI_s {V : Nat → Int32} {n k0 k : Nat} {st rc : Int32} (x : cnI V n k0 st rc) (hk : k < n) (hn : n ≤ 16) (hs : ¬ V k &&& rc = 0) : cnI V n k0 (st ||| (1 : Int32) <<< (nI k &&& 31)) (rc ||| V k) := by
  refine ⟨fun j hj hb => ?_, fun b hb => ?_, ?_⟩
  · rw [b_or, one_bit (by omega) hj, Bool.or_eq_true, decide_eq_true_eq] at hb
    rcases hb with hb | hb
    · exact x.1 j hj hb
    · subst hb
      refine ⟨hk, ?_⟩
      rw [and0_iff] at hs
      have ⟨b, z⟩ := Classical.not_forall.mp hs
      have ⟨hb, z⟩ := Classical.not_imp.mp z
      have z := Classical.not_not.mp z
      obtain ⟨q, h1, h2, h3⟩ := (x.2.1 b hb).mp z.2
      exact CC.st (x.1 q (by omega) h2).2 hk ⟨b, hb, h3, z.1⟩
  · rw [b_or, Bool.or_eq_true, x.2.1 b hb]
    constructor
    · rintro (⟨q, h1, h2, h3⟩ | z)
      · exact ⟨q, h1, by rw [b_or, h2]; rfl, h3⟩
      · exact ⟨k, hk, by rw [b_or, one_bit (by omega) (by omega)]; simp, z⟩
    · rintro ⟨q, h1, h2, h3⟩
      rw [b_or, one_bit (by omega) (by omega), Bool.or_eq_true, decide_eq_true_eq] at h2
      rcases h2 with h2 | h2
      · exact Or.inl ⟨q, h1, h2, h3⟩
      · subst h2; exact Or.inr h3
  · rw [b_or, x.2.2]; rfl
theorem cnI_end {V : Nat → Int32} {n k0 : Nat} {st rc : Int32} (x : cnI V n k0 st rc) (h0 : k0 < n) (hn : n ≤ 16) (cl : ∀ k, k < n → bt st k = false → V k &&& rc = 0) : cnOK V n k0 st := by
  intro k hk
  refine ⟨fun z => x.1 k hk z, fun ⟨z1, z2⟩ => ?_⟩
  have : ∀ k, CC V n k0 k → k < n ∧ bt st k = true := by
    intro k z
    refine CC.ind (P := fun k => k < n ∧ bt st k = true) ⟨h0, x.2.2⟩ (fun j k _ ih hk hs => ?_) z
    obtain ⟨b, hb, h1, h2⟩ := hs
    refine ⟨hk, ?_⟩
    apply ts_nf
    intro e
    have := (and0_iff _ _).mp (cl k hk e) b hb
    exact this ⟨h2, (x.2.1 b hb).mpr ⟨j, ih.1, ih.2, h1⟩⟩
  exact (this k z2).2
section RF
variable {h : Hp} {sm ln ic nm rm hf ht rt mm il sp rdm : Int32} {W Mn : Nat → Int32}
theorem rconn_in (d : Nat) {L k0 : Nat} {l : List Int32} {nt st0 : Int32} {Q : Option Value → Hp → Prop} (hL : L < 26) (k0' : h[43]? = some (obM sm ln ic nm rm hf ht rt mm il sp rdm)) (k1 : h[55]? = some (aI 416 W)) (lv : Lv W Mn L l)
    (K : ∀ st rc m, cnI (vRow l) l.length k0 st rc → ((m = 0 ∧ st = st0 ∧ ∀ k, k < l.length → bt st k = false → vRow l k &&& rc = 0) ∨ (m = 1 ∧ fb_ct (bt st0) 32 < fb_ct (bt st) 32)) → Rq mX9_connected (d + 1) 145 [.ref 43, .int (nI L), .int nt, .int (nI l.length), .int st, .int rc, .int m, .retAddr 0, .retAddr 0] [] h Q) :
    ∀ (j i : Nat) (st rc m : Int32), i + j = l.length → cnI (vRow l) l.length k0 st rc → ((m = 0 ∧ st = st0 ∧ ∀ k, k < i → bt st k = false → vRow l k &&& rc = 0) ∨ (m = 1 ∧ fb_ct (bt st0) 32 < fb_ct (bt st) 32)) →
    Rq mX9_connected (d + 1) 79 [.ref 43, .int (nI L), .int nt, .int (nI l.length), .int st, .int rc, .int m, .int (nI i), .retAddr 0] [] h Q := by
  have ll := lv.2.1
  intro j
  induction j with
  | zero =>
    intro i st rc m hi x y
    have e : i = l.length := by omega
    subst e
    refine Rq_iload dX9_connected_79 rfl ?_
    refine Rq_iload_n dX9_connected_81 rfl ?_
    refine Rq_icmp_ge_t 145 dX9_connected_82 (by decide) (nI_le (Nat.le_refl _) (by omega)) ?_
    refine Rq_dead [_, _, _, _, _, _, _, .retAddr 0, _] ⟨Or.inr rfl, Or.inr rfl, Or.inr rfl, Or.inr rfl, Or.inr rfl, Or.inr rfl, Or.inr rfl, Or.inl rfl, Or.inr rfl, trivial⟩ ?_
    exact K st rc m x y
  | succ j ih =>
    intro i st rc m hi x y
    have ew := lv.at (show i < l.length by omega)
    refine Rq_iload dX9_connected_79 rfl ?_
    refine Rq_iload_n dX9_connected_81 rfl ?_
    refine Rq_icmp_ge_f 145 dX9_connected_82 (by decide) (nI_ge (by omega) (by omega)) ?_
    refine Rq_aload_n dX9_connected_85 rfl ?_
    refine Rq_get dX9_connected_86 flX9_44 k0' rfl ?_
    refine Rq_bipush (16) dX9_connected_89 (by decide) ?_
    refine Rq_iload_n dX9_connected_91 rfl ?_
    refine Rq_imul dX9_connected_92 ?_
    refine Rq_iload dX9_connected_93 rfl ?_
    refine Rq_iadd dX9_connected_95 ?_
    refine Rq_iald (16 * L + i) dX9_connected_96 k1 (by omega) (by decide) (ixm 16 L i) ?_
    rw [ew]
    cases c1 : bt st i with
    | true =>
      refine Rq_callS [_] dX9_connected_97 clX9_91 (rp_vars d _ _) rfl rfl rfl ?_
      refine Rq_istore [_, _, _, _, _, _, _, _, _] dX9_connected_100 rfl rfl rfl ?_
      refine Rq_iload dX9_connected_102 rfl ?_
      refine Rq_iload dX9_connected_104 rfl ?_
      refine Rq_ishr dX9_connected_106 ?_
      refine Rq_iconst (1) dX9_connected_107 (by decide) ?_
      refine Rq_iand dX9_connected_108 ?_
      refine Rq_if_ne_t 139 dX9_connected_109 (by decide) (fun z => by rw [(shr1_iff st (by omega)).mp z] at c1; cases c1) ?_
      refine Rq_iinc [_, _, _, _, _, _, _, _, _] (1) dX9_connected_139 rfl (by decide) rfl rfl rfl ?_
      refine Rq_goto 79 dX9_connected_142 (by decide) ?_
      refine Rq_dead [_, _, _, _, _, _, _, _, .retAddr 0] ⟨Or.inr rfl, Or.inr rfl, Or.inr rfl, Or.inr rfl, Or.inr rfl, Or.inr rfl, Or.inr rfl, Or.inr rfl, Or.inl rfl, trivial⟩ ?_
      rw [nI_1]
      refine ih (i + 1) st rc m (by omega) x ?_
      rcases y with ⟨y1, y2, y3⟩ | y
      · refine Or.inl ⟨y1, y2, fun k hk hb => ?_⟩
        by_cases e : k = i
        · subst e; rw [c1] at hb; cases hb
        · exact y3 k (by omega) hb
      · exact Or.inr y
    | false =>
      by_cases c2 : vRow l i &&& rc = 0
      · refine Rq_callS [_] dX9_connected_97 clX9_91 (rp_vars d _ _) rfl rfl rfl ?_
        refine Rq_istore [_, _, _, _, _, _, _, _, _] dX9_connected_100 rfl rfl rfl ?_
        refine Rq_iload dX9_connected_102 rfl ?_
        refine Rq_iload dX9_connected_104 rfl ?_
        refine Rq_ishr dX9_connected_106 ?_
        refine Rq_iconst (1) dX9_connected_107 (by decide) ?_
        refine Rq_iand dX9_connected_108 ?_
        refine Rq_if_ne_f 139 dX9_connected_109 (by decide) ((shr1_iff st (by omega)).mpr c1) ?_
        refine Rq_iload dX9_connected_112 rfl ?_
        refine Rq_iload dX9_connected_114 rfl ?_
        refine Rq_iand dX9_connected_116 ?_
        refine Rq_if_eq_t 139 dX9_connected_117 (by decide) c2 ?_
        refine Rq_iinc [_, _, _, _, _, _, _, _, _] (1) dX9_connected_139 rfl (by decide) rfl rfl rfl ?_
        refine Rq_goto 79 dX9_connected_142 (by decide) ?_
        refine Rq_dead [_, _, _, _, _, _, _, _, .retAddr 0] ⟨Or.inr rfl, Or.inr rfl, Or.inr rfl, Or.inr rfl, Or.inr rfl, Or.inr rfl, Or.inr rfl, Or.inr rfl, Or.inl rfl, trivial⟩ ?_
        rw [nI_1]
        refine ih (i + 1) st rc m (by omega) x ?_
        rcases y with ⟨y1, y2, y3⟩ | y
        · refine Or.inl ⟨y1, y2, fun k hk hb => ?_⟩
          by_cases e : k = i
          · subst e; exact c2
          · exact y3 k (by omega) hb
        · exact Or.inr y
      · refine Rq_callS [_] dX9_connected_97 clX9_91 (rp_vars d _ _) rfl rfl rfl ?_
        refine Rq_istore [_, _, _, _, _, _, _, _, _] dX9_connected_100 rfl rfl rfl ?_
        refine Rq_iload dX9_connected_102 rfl ?_
        refine Rq_iload dX9_connected_104 rfl ?_
        refine Rq_ishr dX9_connected_106 ?_
        refine Rq_iconst (1) dX9_connected_107 (by decide) ?_
        refine Rq_iand dX9_connected_108 ?_
        refine Rq_if_ne_f 139 dX9_connected_109 (by decide) ((shr1_iff st (by omega)).mpr c1) ?_
        refine Rq_iload dX9_connected_112 rfl ?_
        refine Rq_iload dX9_connected_114 rfl ?_
        refine Rq_iand dX9_connected_116 ?_
        refine Rq_if_eq_f 139 dX9_connected_117 (by decide) c2 ?_
        refine Rq_iload dX9_connected_120 rfl ?_
        refine Rq_iconst (1) dX9_connected_122 (by decide) ?_
        refine Rq_iload dX9_connected_123 rfl ?_
        refine Rq_ishl dX9_connected_125 ?_
        refine Rq_ior dX9_connected_126 ?_
        refine Rq_istore [_, _, _, _, _, _, _, _, _] dX9_connected_127 rfl rfl rfl ?_
        refine Rq_iload dX9_connected_129 rfl ?_
        refine Rq_iload dX9_connected_131 rfl ?_
        refine Rq_ior dX9_connected_133 ?_
        refine Rq_istore [_, _, _, _, _, _, _, _, _] dX9_connected_134 rfl rfl rfl ?_
        refine Rq_iconst (1) dX9_connected_136 (by decide) ?_
        refine Rq_istore [_, _, _, _, _, _, _, _, _] dX9_connected_137 rfl rfl rfl ?_
        refine Rq_iinc [_, _, _, _, _, _, _, _, _] (1) dX9_connected_139 rfl (by decide) rfl rfl rfl ?_
        refine Rq_goto 79 dX9_connected_142 (by decide) ?_
        refine Rq_dead [_, _, _, _, _, _, _, _, .retAddr 0] ⟨Or.inr rfl, Or.inr rfl, Or.inr rfl, Or.inr rfl, Or.inr rfl, Or.inr rfl, Or.inr rfl, Or.inr rfl, Or.inl rfl, trivial⟩ ?_
        rw [nI_1]
        refine ih (i + 1) _ _ 1 (by omega) (cnI_s x (by omega) ll c2) (Or.inr ⟨rfl, ?_⟩)
        have e : fb_ct (bt (st ||| (1 : Int32) <<< (nI i &&& 31))) 32 = fb_ct (fun k => if k = i then true else bt st k) 32 := by
          apply fb_ct_cong
          intro k hk
          rw [b_or, one_bit (by omega) hk]
          by_cases e : k = i
          · rw [if_pos e]; simp [e]
          · rw [if_neg e]; simp [e]
        have u := fb_ct_upd (bt st) true (show i < 32 by omega)
        rw [← e, c1] at u
        simp at u
        rcases y with ⟨_, y2, _⟩ | ⟨_, y⟩
        · rw [← y2]; omega
        · omega
theorem rp_connected (d : Nat) {L k0 : Nat} {l : List Int32} {nt : Int32} (hL : L < 26) (k0' : h[43]? = some (obM sm ln ic nm rm hf ht rt mm il sp rdm)) (k1 : h[55]? = some (aI 416 W)) (k2 : h[56]? = some (aI 26 Mn)) (lv : Lv W Mn L l) (hk : k0 < l.length) (hk1 : bt nt k0 = false) (hk2 : ∀ k, k < k0 → bt nt k = true) :
    Mq mX9_connected (d + 1) [.ref 43, .int (nI L), .int nt] h (fun r h' => h' = h ∧ ∃ x, r = some (.int x) ∧ cnOK (vRow l) l.length k0 x) := by
  have ll := lv.2.1
  have outer : ∀ (f : Nat) (st rc : Int32), 32 ≤ fb_ct (bt st) 32 + f → cnI (vRow l) l.length k0 st rc → Rq mX9_connected (d + 1) 68 [.ref 43, .int (nI L), .int nt, .int (nI l.length), .int st, .int rc, .int 1, .retAddr 0, .retAddr 0] [] h (fun r h' => h' = h ∧ ∃ x, r = some (.int x) ∧ cnOK (vRow l) l.length k0 x) := by
    intro f
    induction f with
    | zero =>
      intro st rc hf x
      exfalso
      have h1 := fb_ct_le (bt st) 32
      have h2 := fb_ct_all.mp (show fb_ct (bt st) 32 = 32 by omega) 31 (by decide)
      have := (x.1 31 (by decide) h2).1
      omega
    | succ f ih =>
      intro st rc hf x
      refine Rq_iload dX9_connected_68 rfl ?_
      refine Rq_if_eq_f 148 dX9_connected_70 (by decide) (by decide) ?_
      refine Rq_iconst (0) dX9_connected_73 (by decide) ?_
      refine Rq_istore [_, _, _, _, _, _, _, _, _] dX9_connected_74 rfl rfl rfl ?_
      refine Rq_iconst (0) dX9_connected_76 (by decide) ?_
      refine Rq_istore [_, _, _, _, _, _, _, _, _] dX9_connected_77 rfl rfl rfl ?_
      refine rconn_in d (st0 := st) hL k0' k1 lv ?_ l.length 0 st rc 0 (by omega) x (Or.inl ⟨rfl, rfl, fun k hk => by omega⟩)
      intro st2 rc2 m x2 y
      rcases y with ⟨rfl, rfl, y⟩ | ⟨rfl, y⟩
      · refine Rq_goto 68 dX9_connected_145 (by decide) ?_
        refine Rq_iload dX9_connected_68 rfl ?_
        refine Rq_if_eq_t 148 dX9_connected_70 (by decide) rfl ?_
        refine Rq_iload dX9_connected_148 rfl ?_
        refine Rq_iret dX9_connected_150 rfl ?_
        exact ⟨rfl, st2, rfl, cnI_end x2 hk ll y⟩
      · refine Rq_goto 68 dX9_connected_145 (by decide) ?_
        exact ih st2 rc2 (by omega) x2
  have first : ∀ (j i : Nat), i + j = k0 → Rq mX9_connected (d + 1) 16 [.ref 43, .int (nI L), .int nt, .int (nI l.length), .int 0, .int 0, .int (nI i), .retAddr 0, .retAddr 0] [] h (fun r h' => h' = h ∧ ∃ x, r = some (.int x) ∧ cnOK (vRow l) l.length k0 x) := by
    intro j
    induction j with
    | zero =>
      intro i hi
      have e : i = k0 := by omega
      subst e
      have ew := lv.at hk
      have x0 := cnI_0 (V := vRow l) hk ll
      have nz : ¬ (1 : Int32) <<< (nI i &&& 31) = 0 := fun z => by
        have := x0.2.2
        rw [z, b_0] at this
        cases this
      refine Rq_iload dX9_connected_16 rfl ?_
      refine Rq_iload_n dX9_connected_18 rfl ?_
      refine Rq_icmp_ge_f 65 dX9_connected_19 (by decide) (nI_ge hk (by omega)) ?_
      refine Rq_iload dX9_connected_22 rfl ?_
      refine Rq_if_ne_f 65 dX9_connected_24 (by decide) rfl ?_
      refine Rq_iload_n dX9_connected_27 rfl ?_
      refine Rq_iload dX9_connected_28 rfl ?_
      refine Rq_ishr dX9_connected_30 ?_
      refine Rq_iconst (1) dX9_connected_31 (by decide) ?_
      refine Rq_iand dX9_connected_32 ?_
      refine Rq_if_ne_f 59 dX9_connected_33 (by decide) ((shr1_iff nt (by omega)).mpr hk1) ?_
      refine Rq_iconst (1) dX9_connected_36 (by decide) ?_
      refine Rq_iload dX9_connected_37 rfl ?_
      refine Rq_ishl dX9_connected_39 ?_
      refine Rq_istore [_, _, _, _, _, _, _, _, _] dX9_connected_40 rfl rfl rfl ?_
      refine Rq_aload_n dX9_connected_42 rfl ?_
      refine Rq_get dX9_connected_43 flX9_44 k0' rfl ?_
      refine Rq_bipush (16) dX9_connected_46 (by decide) ?_
      refine Rq_iload_n dX9_connected_48 rfl ?_
      refine Rq_imul dX9_connected_49 ?_
      refine Rq_iload dX9_connected_50 rfl ?_
      refine Rq_iadd dX9_connected_52 ?_
      refine Rq_iald (16 * L + i) dX9_connected_53 k1 (by omega) (by decide) (ixm 16 L i) ?_
      rw [ew]
      by_cases c : i + 1 = l.length
      · refine Rq_callS [_] dX9_connected_54 clX9_91 (rp_vars d _ _) rfl rfl rfl ?_
        refine Rq_istore [_, _, _, _, _, _, _, _, _] dX9_connected_57 rfl rfl rfl ?_
        refine Rq_iinc [_, _, _, _, _, _, _, _, _] (1) dX9_connected_59 rfl (by decide) rfl rfl rfl ?_
        refine Rq_goto 16 dX9_connected_62 (by decide) ?_
        refine Rq_iload dX9_connected_16 rfl ?_
        refine Rq_iload_n dX9_connected_18 rfl ?_
        refine Rq_icmp_ge_t 65 dX9_connected_19 (by decide) (by rw [nI_1, c]; exact nI_le (Nat.le_refl _) (by omega)) ?_
        refine Rq_iconst (1) dX9_connected_65 (by decide) ?_
        refine Rq_istore [_, _, _, _, _, _, _, _, _] dX9_connected_66 rfl rfl rfl ?_
        exact outer 32 _ _ (by omega) x0
      · refine Rq_callS [_] dX9_connected_54 clX9_91 (rp_vars d _ _) rfl rfl rfl ?_
        refine Rq_istore [_, _, _, _, _, _, _, _, _] dX9_connected_57 rfl rfl rfl ?_
        refine Rq_iinc [_, _, _, _, _, _, _, _, _] (1) dX9_connected_59 rfl (by decide) rfl rfl rfl ?_
        refine Rq_goto 16 dX9_connected_62 (by decide) ?_
        refine Rq_iload dX9_connected_16 rfl ?_
        refine Rq_iload_n dX9_connected_18 rfl ?_
        refine Rq_icmp_ge_f 65 dX9_connected_19 (by decide) (by rw [nI_1]; exact nI_ge (by omega) (by omega)) ?_
        refine Rq_iload dX9_connected_22 rfl ?_
        refine Rq_if_ne_t 65 dX9_connected_24 (by decide) nz ?_
        refine Rq_iconst (1) dX9_connected_65 (by decide) ?_
        refine Rq_istore [_, _, _, _, _, _, _, _, _] dX9_connected_66 rfl rfl rfl ?_
        exact outer 32 _ _ (by omega) x0
    | succ j ih =>
      intro i hi
      refine Rq_iload dX9_connected_16 rfl ?_
      refine Rq_iload_n dX9_connected_18 rfl ?_
      refine Rq_icmp_ge_f 65 dX9_connected_19 (by decide) (nI_ge (by omega) (by omega)) ?_
      refine Rq_iload dX9_connected_22 rfl ?_
      refine Rq_if_ne_f 65 dX9_connected_24 (by decide) rfl ?_
      refine Rq_iload_n dX9_connected_27 rfl ?_
      refine Rq_iload dX9_connected_28 rfl ?_
      refine Rq_ishr dX9_connected_30 ?_
      refine Rq_iconst (1) dX9_connected_31 (by decide) ?_
      refine Rq_iand dX9_connected_32 ?_
      refine Rq_if_ne_t 59 dX9_connected_33 (by decide) (fun z => by have q := hk2 i (by omega); rw [(shr1_iff nt (by omega)).mp z] at q; cases q) ?_
      refine Rq_iinc [_, _, _, _, _, _, _, _, _] (1) dX9_connected_59 rfl (by decide) rfl rfl rfl ?_
      refine Rq_goto 16 dX9_connected_62 (by decide) ?_
      rw [nI_1]
      exact ih (i + 1) (by omega)
  refine Mq_of [_, _, _, _, _, _, _, _, _] (by decide +kernel) rfl rfl ?_
  refine Rq_aload_n dX9_connected_0 rfl ?_
  refine Rq_get dX9_connected_1 flX9_47 k0' rfl ?_
  refine Rq_iload_n dX9_connected_4 rfl ?_
  refine Rq_iald L dX9_connected_5 k2 hL (by decide) rfl ?_
  rw [lv.1]
  refine Rq_istore_n [_, _, _, _, _, _, _, _, _] dX9_connected_6 rfl rfl rfl ?_
  refine Rq_iconst (0) dX9_connected_7 (by decide) ?_
  refine Rq_istore [_, _, _, _, _, _, _, _, _] dX9_connected_8 rfl rfl rfl ?_
  refine Rq_iconst (0) dX9_connected_10 (by decide) ?_
  refine Rq_istore [_, _, _, _, _, _, _, _, _] dX9_connected_11 rfl rfl rfl ?_
  refine Rq_iconst (0) dX9_connected_13 (by decide) ?_
  refine Rq_istore [_, _, _, _, _, _, _, _, _] dX9_connected_14 rfl rfl rfl ?_
  exact first k0 0 (by omega)
/-- how many clauses of a row have a variable; the first variable that most have -/
def mfN (l : List Int32) (v : Nat) : Nat := fb_ct (fun j => bt (vRow l j) v) l.length
def mfR (l : List Int32) : Nat → Nat × Nat
  | 0 => (0, 0)
  | v + 1 => if (mfR l v).2 < mfN l v then (v + 1, mfN l v) else mfR l v
theorem mfR_le (l : List Int32) : ∀ v, (mfR l v).1 ≤ v ∧ (mfR l v).2 ≤ l.length
  | 0 => ⟨Nat.le_refl _, Nat.zero_le _⟩
  | v + 1 => by
    unfold mfR
    split
    · exact ⟨Nat.le_refl _, fb_ct_le _ _⟩
    · exact ⟨Nat.le_succ_of_le (mfR_le l v).1, (mfR_le l v).2⟩
theorem bit_add (x : Int32) {v : Nat} (hv : v < 32) (n : Nat) : nI n + (x >>> (nI v &&& 31) &&& 1) = nI (n + if bt x v then 1 else 0) := by
  cases c : bt x v with
  | false => rw [(shr1_iff x hv).mpr c]; exact nI_add n 0
  | true =>
    have : x >>> (nI v &&& 31) &&& 1 = 1 := by
      apply b_ext
      intro i hi
      rw [b_and]
      have hb : ∀ i : Nat, i < 32 → bt 1 i = decide (i = 0) := by decide
      rw [hb i hi]
      by_cases e : i = 0
      · subst e
        rw [b_sshr v hv x (by decide), Nat.add_zero, if_pos hv, c]
        rfl
      · simp [e]
    rw [this]
    exact nI_add n 1
theorem rp_deciding (d : Nat) {L : Nat} {l : List Int32} (hL : L < 26) (k0 : h[43]? = some (obM sm ln ic nm rm hf ht rt mm il sp rdm)) (k1 : h[55]? = some (aI 416 W)) (k2 : h[56]? = some (aI 26 Mn)) (lv : Lv W Mn L l) : Mq mX9_deciding (d + 1) [.ref 43, .int (nI L)] h (fun r h' => r = some (.int (nI (mfR l 10).1)) ∧ h' = h) := by
  have ll := lv.2.1
  have inner : ∀ (v : Nat) (a b : Int32) (Q : Option Value → Hp → Prop), v < 10 → Rq mX9_deciding (d + 1) 64 [.ref 43, .int (nI L), .int a, .int b, .int (nI (v + 1)), .int (nI (mfN l v)), .retAddr 0] [] h Q → ∀ (j i : Nat), i + j = l.length → Rq mX9_deciding (d + 1) 20 [.ref 43, .int (nI L), .int a, .int b, .int (nI (v + 1)), .int (nI (fb_ct (fun j => bt (vRow l j) v) i)), .int (nI i)] [] h Q := by
    intro v a b Q hv K j
    induction j with
    | zero =>
      intro i hi
      have e : i = l.length := by omega
      subst e
      refine Rq_iload dX9_deciding_20 rfl ?_
      refine Rq_aload_n dX9_deciding_22 rfl ?_
      refine Rq_get dX9_deciding_23 flX9_47 k0 rfl ?_
      refine Rq_iload_n dX9_deciding_26 rfl ?_
      refine Rq_iald L dX9_deciding_27 k2 hL (by decide) rfl ?_
      refine Rq_icmp_ge_t 64 dX9_deciding_28 (by decide) (by rw [lv.1]; exact nI_le (Nat.le_refl _) (by omega)) ?_
      refine Rq_dead [_, _, _, _, _, _, .retAddr 0] ⟨Or.inr rfl, Or.inr rfl, Or.inr rfl, Or.inr rfl, Or.inr rfl, Or.inr rfl, Or.inl rfl, trivial⟩ ?_
      exact K
    | succ j ih =>
      intro i hi
      have ew := lv.at (show i < l.length by omega)
      refine Rq_iload dX9_deciding_20 rfl ?_
      refine Rq_aload_n dX9_deciding_22 rfl ?_
      refine Rq_get dX9_deciding_23 flX9_47 k0 rfl ?_
      refine Rq_iload_n dX9_deciding_26 rfl ?_
      refine Rq_iald L dX9_deciding_27 k2 hL (by decide) rfl ?_
      refine Rq_icmp_ge_f 64 dX9_deciding_28 (by decide) (by rw [lv.1]; exact nI_ge (by omega) (by omega)) ?_
      refine Rq_iload dX9_deciding_31 rfl ?_
      refine Rq_aload_n dX9_deciding_33 rfl ?_
      refine Rq_get dX9_deciding_34 flX9_44 k0 rfl ?_
      refine Rq_bipush (16) dX9_deciding_37 (by decide) ?_
      refine Rq_iload_n dX9_deciding_39 rfl ?_
      refine Rq_imul dX9_deciding_40 ?_
      refine Rq_iload dX9_deciding_41 rfl ?_
      refine Rq_iadd dX9_deciding_43 ?_
      refine Rq_iald (16 * L + i) dX9_deciding_44 k1 (by omega) (by decide) (ixm 16 L i) ?_
      rw [ew]
      refine Rq_callS [_] dX9_deciding_45 clX9_91 (rp_vars d _ _) rfl rfl rfl ?_
      refine Rq_iload dX9_deciding_48 rfl ?_
      refine Rq_iconst (1) dX9_deciding_50 (by decide) ?_
      refine Rq_isub dX9_deciding_51 ?_
      rw [nI_pred]
      refine Rq_ishr dX9_deciding_52 ?_
      refine Rq_iconst (1) dX9_deciding_53 (by decide) ?_
      refine Rq_iand dX9_deciding_54 ?_
      refine Rq_iadd dX9_deciding_55 ?_
      rw [bit_add (rVars (l.getD i 0)) (by omega)]
      refine Rq_istore [_, _, _, _, _, _, _] dX9_deciding_56 rfl rfl rfl ?_
      refine Rq_iinc [_, _, _, _, _, _, _] (1) dX9_deciding_58 rfl (by decide) rfl rfl rfl ?_
      refine Rq_goto 20 dX9_deciding_61 (by decide) ?_
      rw [nI_1]
      exact ih (i + 1) (by omega)
  have loop : ∀ (j v : Nat), v + j = 10 → Rq mX9_deciding (d + 1) 7 [.ref 43, .int (nI L), .int (nI (mfR l v).1), .int (nI (mfR l v).2), .int (nI (v + 1)), .retAddr 0, .retAddr 0] [] h (fun r h' => r = some (.int (nI (mfR l 10).1)) ∧ h' = h) := by
    intro j
    induction j with
    | zero =>
      intro v hv
      have e : v = 10 := by omega
      subst e
      refine Rq_iload dX9_deciding_7 rfl ?_
      refine Rq_bipush (10) dX9_deciding_9 (by decide) ?_
      refine Rq_icmp_gt_t 96 dX9_deciding_11 (by decide) (nI_lt (a := 10) (b := 11) (by decide) (by decide)) ?_
      refine Rq_iload_n dX9_deciding_96 rfl ?_
      refine Rq_iret dX9_deciding_97 rfl ?_
      exact ⟨rfl, rfl⟩
    | succ j ih =>
      intro v hv
      have hm := (mfR_le l v).2
      have hc : mfN l v ≤ l.length := fb_ct_le _ _
      have q := ih (v + 1) (by omega)
      refine Rq_iload dX9_deciding_7 rfl ?_
      refine Rq_bipush (10) dX9_deciding_9 (by decide) ?_
      refine Rq_icmp_gt_f 96 dX9_deciding_11 (by decide) (nI_nlt (a := 10) (b := v + 1) (by omega) (by decide)) ?_
      refine Rq_iconst (0) dX9_deciding_14 (by decide) ?_
      refine Rq_istore [_, _, _, _, _, _, _] dX9_deciding_15 rfl rfl rfl ?_
      refine Rq_iconst (0) dX9_deciding_17 (by decide) ?_
      refine Rq_istore [_, _, _, _, _, _, _] dX9_deciding_18 rfl rfl rfl ?_
      refine inner v _ _ _ (by omega) ?_ l.length 0 (by omega)
      unfold mfR at q
      by_cases c : (mfR l v).2 < mfN l v
      · rw [if_pos c] at q
        refine Rq_iload dX9_deciding_64 rfl ?_
        refine Rq_iload_n dX9_deciding_66 rfl ?_
        refine Rq_icmp_le_f 75 dX9_deciding_67 (by decide) (nI_ge c (by omega)) ?_
        refine Rq_iload dX9_deciding_70 rfl ?_
        refine Rq_goto 76 dX9_deciding_72 (by decide) ?_
        refine Rq_istore_n [_, _, _, _, _, _, _] dX9_deciding_76 rfl rfl rfl ?_
        refine Rq_iload dX9_deciding_77 rfl ?_
        refine Rq_iload_n dX9_deciding_79 rfl ?_
        refine Rq_icmp_le_f 88 dX9_deciding_80 (by decide) (nI_ge c (by omega)) ?_
        refine Rq_iload dX9_deciding_83 rfl ?_
        refine Rq_goto 89 dX9_deciding_85 (by decide) ?_
        refine Rq_istore_n [_, _, _, _, _, _, _] dX9_deciding_89 rfl rfl rfl ?_
        refine Rq_iinc [_, _, _, _, _, _, _] (1) dX9_deciding_90 rfl (by decide) rfl rfl rfl ?_
        refine Rq_goto 7 dX9_deciding_93 (by decide) ?_
        refine Rq_dead [_, _, _, _, _, .retAddr 0, _] ⟨Or.inr rfl, Or.inr rfl, Or.inr rfl, Or.inr rfl, Or.inr rfl, Or.inl rfl, Or.inr rfl, trivial⟩ ?_
        rw [nI_1]
        exact q
      · rw [if_neg c] at q
        refine Rq_iload dX9_deciding_64 rfl ?_
        refine Rq_iload_n dX9_deciding_66 rfl ?_
        refine Rq_icmp_le_t 75 dX9_deciding_67 (by decide) (nI_le (by omega) (by omega)) ?_
        refine Rq_iload_n dX9_deciding_75 rfl ?_
        refine Rq_istore_n [_, _, _, _, _, _, _] dX9_deciding_76 rfl rfl rfl ?_
        refine Rq_iload dX9_deciding_77 rfl ?_
        refine Rq_iload_n dX9_deciding_79 rfl ?_
        refine Rq_icmp_le_t 88 dX9_deciding_80 (by decide) (nI_le (by omega) (by omega)) ?_
        refine Rq_iload_n dX9_deciding_88 rfl ?_
        refine Rq_istore_n [_, _, _, _, _, _, _] dX9_deciding_89 rfl rfl rfl ?_
        refine Rq_iinc [_, _, _, _, _, _, _] (1) dX9_deciding_90 rfl (by decide) rfl rfl rfl ?_
        refine Rq_goto 7 dX9_deciding_93 (by decide) ?_
        refine Rq_dead [_, _, _, _, _, .retAddr 0, _] ⟨Or.inr rfl, Or.inr rfl, Or.inr rfl, Or.inr rfl, Or.inr rfl, Or.inl rfl, Or.inr rfl, trivial⟩ ?_
        rw [nI_1]
        exact q
  refine Mq_of [_, _, _, _, _, _, _] (by decide +kernel) rfl rfl ?_
  refine Rq_iconst (0) dX9_deciding_0 (by decide) ?_
  refine Rq_istore_n [_, _, _, _, _, _, _] dX9_deciding_1 rfl rfl rfl ?_
  refine Rq_iconst (0) dX9_deciding_2 (by decide) ?_
  refine Rq_istore_n [_, _, _, _, _, _, _] dX9_deciding_3 rfl rfl rfl ?_
  refine Rq_iconst (1) dX9_deciding_4 (by decide) ?_
  refine Rq_istore [_, _, _, _, _, _, _] dX9_deciding_5 rfl rfl rfl ?_
  exact loop 10 0 rfl
end RF
