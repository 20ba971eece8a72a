/-! each call of the class beside the reference's -/
section PR
variable {h h' : Hp} {n : Nat} {as : Int32} {cs w : Nat → Int32} {k : Nat} {sv : Nat → SC} {er : Nat → Int32} {tn : Nat} {tx : Nat → Int32} {S V : Nat → Int32}
theorem CI.fr (x : CI h n as cs w k sv er tn tx) (F : Fr mC h h') : CI h' n as cs w k sv er tn tx := by
  obtain ⟨gf, mf, h0, s, hn, ⟨q, hi⟩, hk, hsv, ti, rd, cg, cm, wi, ce, h42⟩ := x
  exact ⟨gf, mf, F.at (by decide) h0, s.ag (F.ag (by decide)), hn, ⟨q, hi.ag (F.ag (by decide))⟩, hk, hsv, ti.ag (F.ag (by decide)), rd.ag (F.ag (by decide)), cg.fr F (by decide), cm.ag (F.ag (by decide)), wi.ag (F.ag (by decide)), ce.ag (F.ag (by decide)), F.at (by decide) h42⟩
theorem RI.fc (x : RI h S V er tx n k tn) (F : FC h h') : RI h' S V er tx n k tn := by
  obtain ⟨ic, nm, rm, hf, ht, rt, mm, il, sp, rdm, k43, k44, s0, n16, sv, k45, sm5, vo, k46, k47, tl, rg, rmm, rc, k61⟩ := x
  have e : ∀ k, 43 ≤ k → k < 62 → h'[k]? = h[k]? := F.2
  exact ⟨ic, nm, rm, hf, ht, rt, mm, il, sp, rdm, (e 43 (by decide) (by decide)).trans k43, (e 44 (by decide) (by decide)).trans k44, s0, n16, sv, (e 45 (by decide) (by decide)).trans k45, sm5, vo, (e 46 (by decide) (by decide)).trans k46, (e 47 (by decide) (by decide)).trans k47, tl, rg.ag (fun k a b => e k (by omega) (by omega)), rmm.at (e 60 (by decide) (by decide)), rc, (e 61 (by decide) (by decide)).trans k61⟩
def LI (h : Hp) : Prop := ∃ (n : Nat) (as : Int32) (cs w : Nat → Int32) (k : Nat) (sv : Nat → SC) (er : Nat → Int32) (tn : Nat) (tx S V : Nat → Int32), CI h n as cs w k sv er tn tx ∧ RI h S V er tx n k tn ∧ SR n as cs w S ∧ HR k sv V
def PV (M8 M9 : Mi) (As : List Value) (h : Hp) (P : Value → Prop) : Prop := Mq M8 64 (.ref 0 :: As) h (fun r h1 => ∃ v, P v ∧ r = some v ∧ (∃ fs, h1[43]? = some (.inr (9, fs))) ∧ Mq M9 64 (.ref 43 :: As) h1 (fun r' h2 => r' = some v ∧ LI h2))
def isI (v : Value) : Prop := ∃ x : Int32, v = .int x
def isL (v : Value) : Prop := ∃ x : Int64, v = .long x
abbrev PI (M8 M9 : Mi) (As : List Value) (h : Hp) : Prop := PV M8 M9 As h isI
theorem mkP {M8 M9 : Mi} {As : List Value} {P : Value → Prop} {v : Value} {n' : Nat} {as' : Int32} {cs' w' : Nat → Int32} {k' : Nat} {sv' : Nat → SC} {er' : Nat → Int32} {tn' : Nat} {tx' S' V' : Nat → Int32} (hv : P v) (x : RI h S V er tx n k tn) (hc : Mq M8 64 (.ref 0 :: As) h (qK h n' as' cs' w' k' sv' er' tn' tx' v)) (hr : ∀ h1, RI h1 S V er tx n k tn → Mq M9 64 (.ref 43 :: As) h1 (qR h1 S' V' er' tx' n' k' tn' v)) (s : SR n' as' cs' w' S') (hh : HR k' sv' V') : PV M8 M9 As h P := by
  refine Mq.mono hc ?_
  rintro r h1 ⟨rfl, F, y⟩
  have x1 := x.fc F
  obtain ⟨_, _, _, _, _, _, _, _, _, _, a43, -⟩ := x1.k43
  refine ⟨v, hv, rfl, ⟨_, a43⟩, Mq.mono (hr h1 x1) ?_⟩
  rintro r h2 ⟨rfl, F2, z⟩
  exact ⟨rfl, _, _, _, _, _, _, _, _, _, _, _, y.fr F2, z, s, hh⟩
theorem ix_ex {i : Int32} (hn : n ≤ 16) (h1 : 0 ≤ i) (h2 : i < nI n) : ∃ j, j < n ∧ i = nI j := by
  have a : (0 : Int) ≤ i.toInt := by have := Int32.le_iff_toInt_le.mp h1; exact this
  have b : i.toInt < n := by have := Int32.lt_iff_toInt_lt.mp h2; rwa [nI_toInt (by omega)] at this
  refine ⟨i.toInt.toNat, by omega, ?_⟩
  apply Int32.toInt_inj.mp
  rw [nI_toInt (by omega)]
  omega
theorem ix_ex3 {i : Int32} (h1 : ¬ i < -1) (h2 : i < 3) : ∃ ix : Option Nat, i = ixI ix ∧ ∀ j, ix = some j → j < 3 := by
  have a : ¬ i.toInt < -1 := fun z => h1 (Int32.lt_iff_toInt_lt.mpr (by show i.toInt < (-1 : Int32).toInt; rw [show (-1 : Int32).toInt = -1 from rfl]; exact z))
  have b : i.toInt < 3 := by have := Int32.lt_iff_toInt_lt.mp h2; exact this
  by_cases c : i = -1
  · exact ⟨none, c, fun j hj => by cases hj⟩
  · have d : i.toInt ≠ -1 := fun z => c (Int32.toInt_inj.mp z)
    refine ⟨some i.toInt.toNat, ?_, fun j hj => by cases hj; omega⟩
    apply Int32.toInt_inj.mp
    show i.toInt = (nI i.toInt.toNat).toInt
    rw [nI_toInt (by omega)]
    omega
theorem ix_ex4 {v : Int32} (h1 : -6 < v) (h2 : v ≤ -2) : ∃ j, j < 4 ∧ v = -2 - nI j := by
  have a : -6 < v.toInt := by have := Int32.lt_iff_toInt_lt.mp h1; rwa [show (-6 : Int32).toInt = -6 from rfl] at this
  have b : v.toInt ≤ -2 := by have := Int32.le_iff_toInt_le.mp h2; rwa [show (-2 : Int32).toInt = -2 from rfl] at this
  have c : v.toInt = -2 ∨ v.toInt = -3 ∨ v.toInt = -4 ∨ v.toInt = -5 := by omega
  rcases c with c | c | c | c
  · exact ⟨0, by decide, Int32.toInt_inj.mp (c.trans (by decide))⟩
  · exact ⟨1, by decide, Int32.toInt_inj.mp (c.trans (by decide))⟩
  · exact ⟨2, by decide, Int32.toInt_inj.mp (c.trans (by decide))⟩
  · exact ⟨3, by decide, Int32.toInt_inj.mp (c.trans (by decide))⟩
theorem RI.n16 (x : RI h S V er tx n k tn) : n ≤ 16 ∧ k ≤ 5 ∧ tn ≤ 150 ∧ ∀ j, j < n → vW (S (1 + j)) := by
  obtain ⟨_, _, _, _, _, _, _, _, _, _, _, _, _, a, b, c, _, _, d, _⟩ := x.k43
  exact ⟨a, c, d, b⟩
theorem pr_add (a b c d : Int32) (x : LI h) : PI mX8_addClause mX9_addClause [.int a, .int b, .int c, .int d] h := by
  obtain ⟨n, as, cs, w, k, sv, er, tn, tx, S, V, ci, ri, sr, hr⟩ := x
  obtain ⟨n16, k5, -, -⟩ := ri.n16
  by_cases c1 : aOK a b c d
  · by_cases c2 : aCf a b c d
    · exact mkP ⟨_, rfl⟩ ri (cx_add_cf 62 ci c1 c2) (fun h1 y => rx_add_cf 63 y c1 c2) sr hr
    · by_cases c3 : n = 16
      · exact mkP ⟨_, rfl⟩ ri (cx_add_full 62 ci c1 c2 c3) (fun h1 y => rx_add_full 63 y c1 c2 c3) sr hr
      · exact mkP ⟨_, rfl⟩ ri (cx_add 61 ci c1 c2 (by omega)) (fun h1 y => rx_add 63 y c1 c2 (by omega)) (SR_add sr (by omega) (CR_4 c1)) (HR_save k5 hr sr n16)
  · exact mkP ⟨_, rfl⟩ ri (cx_add_oor 62 ci c1) (fun h1 y => rx_add_oor 63 y c1) sr hr
theorem pr_rem (i : Int32) (x : LI h) : PI mX8_removeClause mX9_removeClause [.int i] h := by
  obtain ⟨n, as, cs, w, k, sv, er, tn, tx, S, V, ci, ri, sr, hr⟩ := x
  obtain ⟨n16, k5, -, -⟩ := ri.n16
  by_cases c : 0 ≤ i ∧ i < nI n
  · obtain ⟨j, hj, rfl⟩ := ix_ex n16 c.1 c.2
    exact mkP ⟨_, rfl⟩ ri (cx_rem 61 ci hj) (fun h1 y => rx_rem 62 y hj) (SR_rem sr n16 hj) (HR_save k5 hr sr n16)
  · exact mkP ⟨_, rfl⟩ ri (cx_rem_oor 62 ci c) (fun h1 y => rx_rem_oor 62 y c) sr hr
theorem pr_cls (x : LI h) : PI mX8_clauses mX9_clauses [] h := by
  obtain ⟨n, as, cs, w, k, sv, er, tn, tx, S, V, ci, ri, sr, hr⟩ := x
  exact mkP ⟨_, rfl⟩ ri (cx_clauses 64 ci) (fun h1 y => rx_clauses 64 y) sr hr
theorem pr_size (i : Int32) (x : LI h) : PI mX8_clauseSize mX9_clauseSize [.int i] h := by
  obtain ⟨n, as, cs, w, k, sv, er, tn, tx, S, V, ci, ri, sr, hr⟩ := x
  obtain ⟨n16, k5, -, -⟩ := ri.n16
  by_cases c : 0 ≤ i ∧ i < nI n
  · obtain ⟨j, hj, rfl⟩ := ix_ex n16 c.1 c.2
    have a := cx_size 62 ci hj
    rw [CR_bc (sr.2.1 j hj)] at a
    exact mkP ⟨_, rfl⟩ ri a (fun h1 y => rx_size 62 y hj) sr hr
  · exact mkP ⟨_, rfl⟩ ri (cx_size_oor 62 ci c) (fun h1 y => rx_size_oor 62 y c) sr hr
theorem pr_asm (a : Int32) (x : LI h) : PI mX8_assume mX9_assume [.int a] h := by
  obtain ⟨n, as, cs, w, k, sv, er, tn, tx, S, V, ci, ri, sr, hr⟩ := x
  obtain ⟨n16, k5, -, -⟩ := ri.n16
  by_cases c1 : isLitP a
  · by_cases c2 : (S 17 ||| S 18) &&& rVars (rBit a) = 0
    · have s2 := SR_asm sr n16 c1 c2
      have q := cx_asm 61 ci c1 ((as_cf sr.2.2.1 c1).mpr c2)
      rw [AR_bc s2.2.2.1] at q
      exact mkP ⟨_, rfl⟩ ri q (fun h1 y => rx_asm 62 y c1 c2) s2 (HR_save k5 hr sr n16)
    · exact mkP ⟨_, rfl⟩ ri (cx_asm_cf 62 ci c1 (fun z => c2 ((as_cf sr.2.2.1 c1).mp z))) (fun h1 y => rx_asm_cf 62 y c1 c2) sr hr
  · exact mkP ⟨_, rfl⟩ ri (cx_asm_oor 62 ci c1) (fun h1 y => rx_asm_oor 62 y c1) sr hr
theorem pr_ret (x : LI h) : PI mX8_retractAll mX9_retractAll [] h := by
  obtain ⟨n, as, cs, w, k, sv, er, tn, tx, S, V, ci, ri, sr, hr⟩ := x
  obtain ⟨n16, k5, -, -⟩ := ri.n16
  have q := cx_ret 61 ci
  rw [AR_bc sr.2.2.1] at q
  exact mkP ⟨_, rfl⟩ ri q (fun h1 y => rx_ret 63 y) (SR_ret sr n16) (HR_save k5 hr sr n16)
theorem pr_wt (a v : Int32) (x : LI h) : PI mX8_setWeight mX9_setWeight [.int a, .int v] h := by
  obtain ⟨n, as, cs, w, k, sv, er, tn, tx, S, V, ci, ri, sr, hr⟩ := x
  obtain ⟨n16, k5, -, -⟩ := ri.n16
  by_cases c : isLitP a ∧ ¬ v < 0 ∧ v ≤ 9
  · have cr := cdN_rng c.1
    have q := cx_wt 61 ci c.1 c.2.1 c.2.2
    rw [← sr.2.2.2 _ cr.1 cr.2] at q
    exact mkP ⟨_, rfl⟩ ri q (fun h1 y => rx_wt 62 y c.1 c.2.1 c.2.2) (SR_wt sr n16 cr.1 cr.2 v) (HR_save k5 hr sr n16)
  · exact mkP ⟨_, rfl⟩ ri (cx_wt_oor 62 ci c) (fun h1 y => rx_wt_oor 62 y c) sr hr
/-! the graph -/
theorem gk (ri : RI h S V er tx n k tn) (sr : SR n as cs w S) : Gok cs n as ∧ ∀ z res, FIN (rtK S n) z res → ntI (exS cs n as).2 = rNod z ∧ (exS cs n as).2.2.1 = nI (rMany z true) ∧ (exS cs n as).2.2.2.1 = nI (rMany z false) ∧ ∃ d, (exS cs n as).1 = nI d ∧ DpR (nvR (rtK S n) + 1) (rtK S n) d := by
  obtain ⟨n16, -, -, hv⟩ := ri.n16
  have sm := Sm_root sr n16 hv
  obtain ⟨_, _, ⟨_, _, _, z, res, _, _, _, _, _, _, _, _, _, fin⟩, _⟩ := ri_comp 0 ri
  obtain ⟨a, b, -⟩ := gq_ok sm fin
  exact ⟨⟨a, b⟩, fun z res fin => (gq_ok sm fin).2.2⟩
theorem pr_nodes (x : LI h) : PI mX8_nodes mX9_nodes [] h := by
  obtain ⟨n, as, cs, w, k, sv, er, tn, tx, S, V, ci, ri, sr, hr⟩ := x
  obtain ⟨ok, g⟩ := gk ri sr
  refine mkP ⟨_, rfl⟩ ri (cx_nodes 35 ci ok) (fun h1 y => Mq.mono (rx_nodes 59 y) ?_) sr hr
  rintro r h2 ⟨z, res, fin, rfl, q⟩
  exact ⟨by rw [(g z res fin).1], q⟩
theorem pr_dn (x : LI h) : PI mX8_decisionNodes mX9_decisionNodes [] h := by
  obtain ⟨n, as, cs, w, k, sv, er, tn, tx, S, V, ci, ri, sr, hr⟩ := x
  obtain ⟨ok, g⟩ := gk ri sr
  refine mkP ⟨_, rfl⟩ ri (cx_dnodes 35 ci ok) (fun h1 y => Mq.mono (rx_dnodes 58 y) ?_) sr hr
  rintro r h2 ⟨z, res, fin, rfl, q⟩
  exact ⟨by rw [(g z res fin).2.1], q⟩
theorem pr_an (x : LI h) : PI mX8_andNodes mX9_andNodes [] h := by
  obtain ⟨n, as, cs, w, k, sv, er, tn, tx, S, V, ci, ri, sr, hr⟩ := x
  obtain ⟨ok, g⟩ := gk ri sr
  refine mkP ⟨_, rfl⟩ ri (cx_anodes 35 ci ok) (fun h1 y => Mq.mono (rx_anodes 58 y) ?_) sr hr
  rintro r h2 ⟨z, res, fin, rfl, q⟩
  exact ⟨by rw [(g z res fin).2.2.1], q⟩
theorem gd (ri : RI h S V er tx n k tn) (sr : SR n as cs w S) {dd : Nat} (hd : DpR (nvR (rtK S n) + 1) (rtK S n) dd) : (exS cs n as).1 = nI dd := by
  obtain ⟨_, g⟩ := gk ri sr
  obtain ⟨_, _, ⟨_, _, _, z, res, _, _, _, _, _, _, _, _, _, fin⟩, _⟩ := ri_comp 0 ri
  obtain ⟨d, e, f⟩ := (g z res fin).2.2.2
  rw [e, DpG_u f hd]
theorem pr_depth (x : LI h) : PI mX8_depth mX9_depth [] h := by
  obtain ⟨n, as, cs, w, k, sv, er, tn, tx, S, V, ci, ri, sr, hr⟩ := x
  obtain ⟨ok, g⟩ := gk ri sr
  refine mkP ⟨_, rfl⟩ ri (cx_depth 35 ci ok) (fun h1 y => Mq.mono (rx_depth 59 y) ?_) sr hr
  rintro r h2 ⟨dd, hd, rfl, q⟩
  exact ⟨by rw [gd ri sr hd], q⟩
theorem pr_rv (x : LI h) : PI mX8_rootVariable mX9_rootVariable [] h := by
  obtain ⟨n, as, cs, w, k, sv, er, tn, tx, S, V, ci, ri, sr, hr⟩ := x
  obtain ⟨ok, g⟩ := gk ri sr
  obtain ⟨n16, -, -, hv⟩ := ri.n16
  refine mkP ⟨_, rfl⟩ ri (cx_rootv 35 ci ok) (fun h1 y => Mq.mono (rx_rootv 59 y) ?_) sr hr
  rintro r h2 ⟨v, hd, rfl, q⟩
  exact ⟨by rw [rv_eq (Sm_root sr n16 hv) hd], q⟩
theorem pr_pt (x : LI h) : PI mX8_components mX9_components [] h := by
  obtain ⟨n, as, cs, w, k, sv, er, tn, tx, S, V, ci, ri, sr, hr⟩ := x
  obtain ⟨ok, g⟩ := gk ri sr
  obtain ⟨n16, -, -, hv⟩ := ri.n16
  refine mkP ⟨_, rfl⟩ ri (cx_comps 35 ci ok) (fun h1 y => Mq.mono (rx_comps 59 y) ?_) sr hr
  rintro r h2 ⟨v, hd, rfl, q⟩
  exact ⟨by rw [pc_eq (Sm_root sr n16 hv) hd], q⟩
/-! the models -/
theorem pr_mod (x : LI h) : PI mX8_models mX9_models [] h := by
  obtain ⟨n, as, cs, w, k, sv, er, tn, tx, S, V, ci, ri, sr, hr⟩ := x
  have q := cx_models 60 ci
  rw [sz_eq sr] at q
  exact mkP ⟨_, rfl⟩ ri q (fun h1 y => rx_models 61 y) sr hr
theorem pr_mw (a : Int32) (x : LI h) : PI mX8_modelsWith mX9_modelsWith [.int a] h := by
  obtain ⟨n, as, cs, w, k, sv, er, tn, tx, S, V, ci, ri, sr, hr⟩ := x
  by_cases c : isLitP a
  · have q := cx_mwith 60 ci c
    rw [sw_eq sr c] at q
    exact mkP ⟨_, rfl⟩ ri q (fun h1 y => rx_mwith 61 y c) sr hr
  · exact mkP ⟨_, rfl⟩ ri (cx_mwith_oor 62 ci c) (fun h1 y => rx_mwith_oor 62 y c) sr hr
theorem pr_wc (x : LI h) : PV mX8_weightedCount mX9_weightedCount [] h isL := by
  obtain ⟨n, as, cs, w, k, sv, er, tn, tx, S, V, ci, ri, sr, hr⟩ := x
  have q := cx_wcount 60 ci
  rw [wc_eq sr] at q
  exact mkP ⟨_, rfl⟩ ri q (fun h1 y => rx_wcount 63 y) sr hr
theorem pr_sh (x : LI h) : PI mX8_shareBits mX9_shareBits [] h := by
  obtain ⟨n, as, cs, w, k, sv, er, tn, tx, S, V, ci, ri, sr, hr⟩ := x
  have q := cx_share 59 ci
  rw [sz_eq sr] at q
  exact mkP ⟨_, rfl⟩ ri q (fun h1 y => rx_share 60 y (Nat.lt_succ_of_le (rBy_le S n 0))) sr hr
theorem pr_im (a : Int32) (x : LI h) : PI mX8_implied mX9_implied [.int a] h := by
  obtain ⟨n, as, cs, w, k, sv, er, tn, tx, S, V, ci, ri, sr, hr⟩ := x
  by_cases c : a = 1 ∨ a = -1
  · have q := cx_impl 60 ci c
    rw [im_eq sr c] at q
    exact mkP ⟨_, rfl⟩ ri q (fun h1 y => rx_impl 63 c y) sr hr
  · exact mkP ⟨_, rfl⟩ ri (cx_impl_oor 62 ci (fun z => c (Or.inl z)) (fun z => c (Or.inr z))) (fun h1 y => rx_impl_oor 63 y (fun z => c (Or.inl z)) (fun z => c (Or.inr z))) sr hr
theorem pr_ls (x : LI h) : PI mX8_leastModel mX9_leastModel [] h := by
  obtain ⟨n, as, cs, w, k, sv, er, tn, tx, S, V, ci, ri, sr, hr⟩ := x
  have q := cx_least 60 ci
  rw [ls_eq sr] at q
  exact mkP ⟨_, rfl⟩ ri q (fun h1 y => rx_least 63 y) sr hr
theorem pr_ex (a i : Int32) (x : LI h) : PI mX8_explanation mX9_explanation [.int a, .int i] h := by
  obtain ⟨n, as, cs, w, k, sv, er, tn, tx, S, V, ci, ri, sr, hr⟩ := x
  by_cases c : isLitP a ∧ ¬ i < -1 ∧ i < 3
  · obtain ⟨ix, rfl, hi⟩ := ix_ex3 c.2.1 c.2.2
    have q := cx_expl 57 ci c.1 hi
    rw [xp_eq sr c.1] at q
    exact mkP ⟨_, rfl⟩ ri q (fun h1 y => rx_expl 58 y c.1 hi) sr hr
  · exact mkP ⟨_, rfl⟩ ri (cx_expl_oor 62 ci c) (fun h1 y => rx_expl_oor 62 y c) sr hr
/-! the text, undo, errors -/
theorem pr_app (v : Int32) (x : LI h) : PI mX8_append mX9_append [.int v] h := by
  obtain ⟨n, as, cs, w, k, sv, er, tn, tx, S, V, ci, ri, sr, hr⟩ := x
  obtain ⟨-, -, t150, -⟩ := ri.n16
  by_cases c : ¬ v < 0 ∧ v ≤ 127
  · by_cases c2 : tn = 150
    · exact mkP ⟨_, rfl⟩ ri (cx_app_full 62 ci c.1 c.2 c2) (fun h1 y => rx_app_full 62 y c.1 c.2 c2) sr hr
    · exact mkP ⟨_, rfl⟩ ri (cx_app 62 ci c.1 c.2 (by omega)) (fun h1 y => rx_app 62 y c.1 c.2 (by omega)) sr hr
  · exact mkP ⟨_, rfl⟩ ri (cx_app_oor 62 ci c) (fun h1 y => rx_app_oor 62 y c) sr hr
theorem pr_clr (x : LI h) : PI mX8_clearText mX9_clearText [] h := by
  obtain ⟨n, as, cs, w, k, sv, er, tn, tx, S, V, ci, ri, sr, hr⟩ := x
  exact mkP ⟨_, rfl⟩ ri (cx_clr 64 ci) (fun h1 y => rx_clr 64 y) sr hr
theorem pr_ec (v : Int32) (x : LI h) : PI mX8_errorCount mX9_errorCount [.int v] h := by
  obtain ⟨n, as, cs, w, k, sv, er, tn, tx, S, V, ci, ri, sr, hr⟩ := x
  by_cases c : -6 < v ∧ v ≤ -2
  · obtain ⟨j, hj, hv⟩ := ix_ex4 c.1 c.2
    exact mkP ⟨_, rfl⟩ ri (cx_ec 62 ci hj hv) (fun h1 y => rx_ec 62 y hj hv) sr hr
  · exact mkP ⟨_, rfl⟩ ri (cx_ec_oor 62 ci c) (fun h1 y => rx_ec_oor 62 y c) sr hr
theorem pr_und (x : LI h) : PI mX8_undo mX9_undo [] h := by
  obtain ⟨n, as, cs, w, k, sv, er, tn, tx, S, V, ci, ri, sr, hr⟩ := x
  cases k with
  | zero => exact mkP ⟨_, rfl⟩ ri (cx_undo_no 62 ci) (fun h1 y => rx_undo_no 62 y) sr hr
  | succ k =>
    obtain ⟨m, hm, e, s2⟩ := hr k (by omega)
    exact mkP ⟨_, rfl⟩ ri (cx_undo 61 ci hm e) (fun h1 y => rx_undo 62 y hm s2.1) (SR_und hm s2) (HR_le hr (by omega))
theorem pr_par (x : LI h) : PI mX8_parse mX9_parse [] h := by
  obtain ⟨n, as, cs, w, k, sv, er, tn, tx, S, V, ci, ri, sr, hr⟩ := x
  obtain ⟨n16, k5, -, -⟩ := ri.n16
  obtain ⟨rc, hc⟩ := cx_parse 58 ci
  cases hg : gRead fullC fBit fVars tn tx (16 - n) rc with
  | inl e =>
    rw [hg] at hc
    refine mkP (v := .int (-10 - nI e)) ⟨_, rfl⟩ ri hc (fun h1 y => ?_) sr hr
    obtain ⟨rc', hq⟩ := rx_parse 60 y
    have q := read_eq (tn := tn) (tx := tx) (room := 16 - n) rc rc'
    rw [hg] at q
    have q' : gRead fullR rBit rVars tn tx (16 - n) rc' = .inl e := q
    rw [q'] at hq
    exact hq
  | inr z =>
    obtain ⟨m, r1⟩ := z
    rw [hg] at hc
    refine Mq.mono hc ?_
    rintro r h1 ⟨hm, rfl, F, y⟩
    have x1 := ri.fc F
    obtain ⟨_, _, _, _, _, _, _, _, _, _, a43, -⟩ := x1.k43
    obtain ⟨rc', hq⟩ := rx_parse 60 x1
    have q := read_eq (tn := tn) (tx := tx) (room := 16 - n) rc rc'
    rw [hg] at q
    obtain ⟨r2, e2, hcr⟩ := q
    rw [e2] at hq
    refine ⟨_, ⟨_, rfl⟩, rfl, ⟨_, a43⟩, Mq.mono hq ?_⟩
    rintro r h2 ⟨hm2, rfl, F2, z⟩
    exact ⟨rfl, _, _, _, _, _, _, _, _, _, _, _, y.fr F2, z, SR_app sr hm (fun j hj => (hcr j hj).1), HR_save k5 hr sr n16⟩
theorem dgC_cong {g g' : Nat → Int32} (a : Int64) : ∀ k, (∀ i, i < k → g i = g' i) → dgC g a k = dgC g' a k
  | 0, _ => rfl
  | k + 1, hg => by
    unfold dgC
    rw [dgC_cong a k (fun i hi => hg i (by omega)), hg k (by omega)]
theorem pr_dg (x : LI h) : PV mX8_digest mX9_digest [] h isL := by
  obtain ⟨n, as, cs, w, k, sv, er, tn, tx, S, V, ci, ri, sr, hr⟩ := x
  obtain ⟨n16, -, -, hv⟩ := ri.n16
  obtain ⟨ok, g⟩ := gk ri sr
  refine mkP ⟨_, rfl⟩ ri (cx_digest 35 ci ok) (fun h1 y => Mq.mono (rx_digest 57 y) ?_) sr hr
  rintro r h2 ⟨v, ⟨s1, r1, s2, r2, s3, r3, dd, rv, pt, f1, f2, f3, f4, f5, f6, e⟩, rfl, q⟩
  refine ⟨?_, q⟩
  have sm := Sm_root sr n16 hv
  rw [e, (g s1 r1 f1).1, (g s2 r2 f2).2.1, (g s3 r3 f3).2.2.1, gd ri sr f4, rv_eq sm f5, pc_eq sm f6, sz_eq sr, wc_eq sr, ls_eq sr, AR_bc sr.2.2.1]
  unfold dgAll
  rw [dgC_cong _ n (fun i hi => CR_bc (sr.2.1 i hi)), dgC_cong (g := fun i => w (i + 2)) (g' := fun i => S (19 + i)) _ 20 (fun i hi => by rw [show 19 + i = 17 + (i + 2) by omega]; exact (sr.2.2.2 (i + 2) (by omega) (by omega)).symm)]
end PR
