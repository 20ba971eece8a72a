/-! CnfCompiler: what holds of its cells between calls -/
abbrev obX (gf mf : Int32) : va_E := .inr (8, [.ref 1, .ref 4, .ref 21, .ref 23, .ref 25, .ref 32, .ref 35, .ref 38, .ref 42, .int gf, .int mf])
/-- the reference's cells stay -/
def FC (h h' : Hp) : Prop := h.length ≤ h'.length ∧ ∀ k, 43 ≤ k → k < 62 → h'[k]? = h[k]?
theorem FC.rf (h : Hp) : FC h h := ⟨Nat.le_refl _, fun _ _ _ => rfl⟩
theorem FC.trans {h h1 h2 : Hp} (x : FC h h1) (y : FC h1 h2) : FC h h2 := ⟨Nat.le_trans x.1 y.1, fun k a b => (y.2 k a b).trans (x.2 k a b)⟩
theorem Fr.c {S : List Nat} {h h' : Hp} (x : Fr S h h') (hS : ∀ k ∈ S, k < 43) : FC h h' := ⟨by rw [x.1]; exact Nat.le_refl _, fun k h1 h2 => x.2 k (fun z => by have := hS k z; omega)⟩
theorem FG.c {h h' : Hp} (x : FG h h') : FC h h' := ⟨x.1, fun k h1 h2 => x.2 k h2 (by omega)⟩
/-- h' holds what h holds at the addresses from a to b -/
def Ag (a b : Nat) (h h' : Hp) : Prop := ∀ k, a ≤ k → k ≤ b → h'[k]? = h[k]?
theorem Fr.ag {S : List Nat} {h h' : Hp} {a b : Nat} (x : Fr S h h') (hS : ∀ k ∈ S, k < a ∨ b < k) : Ag a b h h' := fun k h1 h2 => x.2 k (fun z => by have := hS k z; omega)
theorem FG.ag {h h' : Hp} {a b : Nat} (x : FG h h') (h1 : b < 25 ∨ (31 < a ∧ b < 62)) : Ag a b h h' := fun k z1 z2 => x.2 k (by omega) (by omega)
theorem SV.ag {h h' : Hp} {a : Nat} {S : SC} (x : SV h a S) (y : Ag a (a + 2) h h') : SV h' a S := x.keep (y _ (by omega) (by omega)) (y _ (by omega) (by omega)) (y _ (by omega) (by omega))
theorem HI.ag {h h' : Hp} {q : Nat → Nat} {k : Nat} {sv : Nat → SC} (x : HI h q k sv) (y : Ag 4 20 h h') : HI h' q k sv := by
  obtain ⟨h4, ⟨f, h5, hf⟩, ho, hi, hs⟩ := x
  refine ⟨(y 4 (by decide) (by decide)).trans h4, ⟨f, (y 5 (by decide) (by decide)).trans h5, hf⟩, ho, hi, fun i hh => ?_⟩
  have := (ho i hh).lo
  exact (hs i hh).ag (fun k h1 h2 => y k (by omega) (by omega))
theorem TI.ag {h h' : Hp} {n : Nat} {t : Nat → Int32} (x : TI h n t) (y : Ag 21 22 h h') : TI h' n t := ⟨(y 21 (by decide) (by decide)).trans x.1, (y 22 (by decide) (by decide)).trans x.2.1, x.2.2⟩
theorem RD.ag {h h' : Hp} (x : RD h) (y : Ag 23 24 h h') : RD h' := by
  obtain ⟨k, p, c, e, rc, h1, h2⟩ := x
  exact ⟨k, p, c, e, rc, (y 23 (by decide) (by decide)).trans h1, (y 24 (by decide) (by decide)).trans h2⟩
theorem MI.ag {h h' : Hp} {f : Nat → Int64} (x : MI h f) (y : Ag 32 34 h h') : MI h' f := by
  obtain ⟨a, b, g, c⟩ := x
  exact ⟨(y 32 (by decide) (by decide)).trans a, (y 33 (by decide) (by decide)).trans b, g, (y 34 (by decide) (by decide)).trans c⟩
theorem WI.ag {h h' : Hp} (x : WI h) (y : Ag 35 37 h h') : WI h' := by
  obtain ⟨a, ⟨f, b⟩, g, c⟩ := x
  exact ⟨(y 35 (by decide) (by decide)).trans a, ⟨f, (y 36 (by decide) (by decide)).trans b⟩, g, (y 37 (by decide) (by decide)).trans c⟩
theorem EX.ag {h h' : Hp} (x : EX h) (y : Ag 38 41 h h') : EX h' := by
  obtain ⟨us, g, fs, s, o, ch, h1, h2, h3, h4⟩ := x
  exact ⟨us, g, fs, s, o, ch, (y 38 (by decide) (by decide)).trans h1, (y 39 (by decide) (by decide)).trans h2, (y 40 (by decide) (by decide)).trans h3, (y 41 (by decide) (by decide)).trans h4⟩
theorem EH.ag {h h' : Hp} {c : Nat} {o : Option (List Nat)} (x : EH h c o) (y : Ag 38 41 h h') : EH h' c o := by
  obtain ⟨us, ch, h1, h2⟩ := x
  refine ⟨us, ch, (y 41 (by decide) (by decide)).trans h1, ?_⟩
  cases o with
  | none => exact (y 38 (by decide) (by decide)).trans h2
  | some l => exact ⟨(y 38 (by decide) (by decide)).trans h2.1, h2.2⟩
theorem GI.fr {S : List Nat} {h h' : Hp} {f : Nat → Int32} {T : List Nd} {rs rd dt at' ht hf : Int32} (g : GI h f T rs rd dt at' ht hf) (F : Fr S h h') (hS : ∀ k ∈ S, k < 25 ∨ (31 < k ∧ k < 62)) : GI h' f T rs rd dt at' ht hf := by
  obtain ⟨nr, nz, nd, nn, cap, heads, h1, h2, h3, hh, ⟨NR, NZ, ND, NN, g1, g2, g3, g4, g5⟩, hc, ⟨o1, o2, o3, o4⟩, hne, l1, l2, l3⟩ := g
  have no : ∀ a, own a → a ∉ S := fun a o z => by have := hS a z; rcases o with o | o <;> omega
  have n5 : ∀ a, 25 ≤ a → a ≤ 31 → a ∉ S := fun a z1 z2 z => by have := hS a z; omega
  refine ⟨nr, nz, nd, nn, cap, heads, F.at (n5 25 (by decide) (by decide)) h1, F.at (n5 26 (by decide) (by decide)) h2, F.at (n5 27 (by decide) (by decide)) h3, hh, ⟨NR, NZ, ND, NN, F.at (no _ o1) g1, F.at (no _ o2) g2, F.at (no _ o3) g3, F.at (no _ o4) g4, g5⟩, hc, ⟨o1, o2, o3, o4⟩, hne, by rw [F.1]; exact l1, by rw [F.1]; exact l2, fun k e hk he => ?_⟩
  rw [F.2 k (fun z => by have := hS k z; omega)] at he
  exact l3 k e hk he
theorem GX.fr {S : List Nat} {h h' : Hp} (g : GX h) (F : Fr S h h') (hS : ∀ k ∈ S, k < 25 ∨ (31 < k ∧ k < 62)) : GX h' := by
  obtain ⟨f, heads, ct, rs, rd, dt, at', ht, hf, nr, nz, nd, nn, cap, NR, NZ, ND, NN, h1, h2, h3, ⟨g1, g2, g3, g4⟩, hc, ⟨o1, o2, o3, o4⟩, hne, l1, l2, l3⟩ := g
  have no : ∀ a, own a → a ∉ S := fun a o z => by have := hS a z; rcases o with o | o <;> omega
  have n5 : ∀ a, 25 ≤ a → a ≤ 31 → a ∉ S := fun a z1 z2 z => by have := hS a z; omega
  refine ⟨f, heads, ct, rs, rd, dt, at', ht, hf, nr, nz, nd, nn, cap, NR, NZ, ND, NN, F.at (n5 25 (by decide) (by decide)) h1, F.at (n5 26 (by decide) (by decide)) h2, F.at (n5 27 (by decide) (by decide)) h3, ⟨F.at (no _ o1) g1, F.at (no _ o2) g2, F.at (no _ o3) g3, F.at (no _ o4) g4⟩, hc, ⟨o1, o2, o3, o4⟩, hne, by rw [F.1]; exact l1, by rw [F.1]; exact l2, fun k e hk he => ?_⟩
  rw [F.2 k (fun z => by have := hS k z; omega)] at he
  exact l3 k e hk he
theorem GH.fr {S : List Nat} {h h' : Hp} {rt : List Int32} {v : Int32} {s : Es} (g : GH h rt v s) (F : Fr S h h') (hS : ∀ k ∈ S, k < 25 ∨ (31 < k ∧ k < 62)) : GH h' rt v s := by
  obtain ⟨a, f, g, b⟩ := g
  exact ⟨a, f, GI.fr g F hS, b⟩
/-- the words of the models of n clauses under the assumptions -/
def gW (cs : Nat → Int32) (n : Nat) (as : Int32) (j : Nat) : Int64 := asw (clw cs j n) as j 20
def exS (cs : Nat → Int32) (n : Nat) (as : Int32) : Int32 × Es := exC 11 (rootC cs n as) ([], 0, 0, 0, 0)
def Gok (cs : Nat → Int32) (n : Nat) (as : Int32) : Prop := Rk 11 (rootC cs n as) ∧ (exS cs n as).2.1.length ≤ 1024
def CIg (h : Hp) (gf : Int32) (cs : Nat → Int32) (n : Nat) (as : Int32) : Prop := (gf = 0 ∧ GX h) ∨ (gf = 1 ∧ GH h (rootC cs n as) (exS cs n as).1 (exS cs n as).2)
def CIm (h : Hp) (mf : Int32) (cs : Nat → Int32) (n : Nat) (as : Int32) : Prop := ∃ f, MI h f ∧ (mf = 0 ∨ (mf = 1 ∧ ∀ j, j < 16 → f j = gW cs n as j))
def CIe (h : Hp) (cs : Nat → Int32) (n : Nat) (as : Int32) : Prop := EX h ∧ ∃ us g fs, h[38]? = some (obE us g fs) ∧ (g = -1 ∨ ∃ c, 2 ≤ c ∧ c ≤ 21 ∧ g = nI c ∧ EH h c (explW (gW cs n as) as c))
def CI (h : Hp) (n : Nat) (as : Int32) (cs w : Nat → Int32) (k : Nat) (sv : Nat → SC) (er : Nat → Int32) (tn : Nat) (tx : Nat → Int32) : Prop :=
  ∃ gf mf, h[0]? = some (obX gf mf) ∧ SV h 1 (nI n, as, cs, w) ∧ n ≤ 16 ∧ (∃ q, HI h q k sv) ∧ k ≤ 5 ∧ (∀ i, i < 5 → ∃ m, m ≤ 16 ∧ (sv i).1 = nI m) ∧ TI h tn tx ∧ RD h ∧ CIg h gf cs n as ∧ CIm h mf cs n as ∧ WI h ∧ CIe h cs n as ∧ h[42]? = some (aI 4 er)
theorem CIg.fr {S : List Nat} {h h' : Hp} {gf : Int32} {cs : Nat → Int32} {n : Nat} {as : Int32} (g : CIg h gf cs n as) (F : Fr S h h') (hS : ∀ k ∈ S, k < 25 ∨ (31 < k ∧ k < 62)) : CIg h' gf cs n as := by
  rcases g with ⟨a, b⟩ | ⟨a, b⟩
  · exact Or.inl ⟨a, b.fr F hS⟩
  · exact Or.inr ⟨a, b.fr F hS⟩
theorem CIg.x {h : Hp} {gf : Int32} {cs : Nat → Int32} {n : Nat} {as : Int32} (g : CIg h gf cs n as) : GX h := by
  rcases g with ⟨a, b⟩ | ⟨a, b⟩
  · exact b
  · exact b.x
theorem CIm.ag {h h' : Hp} {mf : Int32} {cs : Nat → Int32} {n : Nat} {as : Int32} (x : CIm h mf cs n as) (y : Ag 32 34 h h') : CIm h' mf cs n as := by
  obtain ⟨f, a, b⟩ := x
  exact ⟨f, a.ag y, b⟩
theorem CIe.ag {h h' : Hp} {cs : Nat → Int32} {n : Nat} {as : Int32} (x : CIe h cs n as) (y : Ag 38 41 h h') : CIe h' cs n as := by
  obtain ⟨a, us, g, fs, b, c⟩ := x
  refine ⟨a.ag y, us, g, fs, (y 38 (by decide) (by decide)).trans b, ?_⟩
  rcases c with c | ⟨c, c1, c2, c3, c4⟩
  · exact Or.inl c
  · exact Or.inr ⟨c, c1, c2, c3, c4.ag y⟩
theorem sp_fail (d : Nat) {h : Hp} {gf mf : Int32} {er : Nat → Int32} (j : Nat) (hj : j < 4) (x : Int32) (hx : x = -2 - nI j) (h0 : h[0]? = some (obX gf mf)) (h42 : h[42]? = some (aI 4 er)) : Mx mX8_fail (d + 1) [.ref 0, .int x] h (some (.int x)) (h.set 42 (aI 4 (upd er j (er j + 1)))) := by
  have hj' : j = 0 ∨ j = 1 ∨ j = 2 ∨ j = 3 := by omega
  have e1 : -6 < x ∧ x ≤ -2 ∧ -2 - x = nI j := by
    rcases hj' with e | e | e | e <;> subst e <;> subst hx <;> decide
  refine Mx_of [_, _] (by decide +kernel) rfl rfl ?_
  refine Rx_iload_n dX8_fail_0 rfl ?_
  refine Rx_callS [_] dX8_fail_1 clX8_215 (sp_isErr_t d h e1.1 e1.2.1) rfl rfl rfl ?_
  refine Rx_if_eq_f 20 dX8_fail_4 (by decide) (by decide) ?_
  refine Rx_aload_n dX8_fail_7 rfl ?_
  refine Rx_get dX8_fail_8 flX8_65 h0 rfl ?_
  refine Rx_bipush (-2) dX8_fail_11 (by decide) ?_
  refine Rx_iload_n dX8_fail_13 rfl ?_
  refine Rx_isub dX8_fail_14 ?_
  refine Rx_dup2 dX8_fail_15 rfl rfl ?_
  rw [e1.2.2]
  refine Rx_iald j dX8_fail_16 h42 hj (by decide) rfl ?_
  refine Rx_iconst (1) dX8_fail_17 (by decide) ?_
  refine Rx_iadd dX8_fail_18 ?_
  refine Rx_iast j dX8_fail_19 h42 hj (by decide) rfl ?_
  refine Rx_iload_n dX8_fail_20 rfl ?_
  exact Rx_iret dX8_fail_21 rfl
theorem sp_changed (d : Nat) {h : Hp} {gf mf us g fs : Int32} (h0 : h[0]? = some (obX gf mf)) (h1 : h[38]? = some (obE us g fs)) : Mx mX8_formulaHasChanged (d + 1) [.ref 0] h none ((h.set 0 (obX 0 0)).set 38 (obE us (-1) fs)) := by
  refine Mx_of [_] (by decide +kernel) rfl rfl ?_
  refine Rx_aload_n dX8_formulaHasChanged_0 rfl ?_
  refine Rx_iconst (0) dX8_formulaHasChanged_1 (by decide) ?_
  refine Rx_put [_, _, _, _, _, _, _, _, _, _, _] dX8_formulaHasChanged_2 fpX8_69 h0 rfl okv_0 rfl ?_
  have a0 := hS (obX 0 mf) h0
  refine Rx_aload_n dX8_formulaHasChanged_5 rfl ?_
  refine Rx_iconst (0) dX8_formulaHasChanged_6 (by decide) ?_
  refine Rx_put [_, _, _, _, _, _, _, _, _, _, _] dX8_formulaHasChanged_7 fpX8_73 a0 rfl okv_0 rfl ?_
  have a1 := hS (obX 0 0) a0
  rw [List.set_set]
  have k0 := hS (obX 0 0) h0
  have k1 := hNs (e' := obX 0 0) (by decide : (0 : Nat) ≠ 38) h1
  refine Rx_aload_n dX8_formulaHasChanged_10 rfl ?_
  refine Rx_get dX8_formulaHasChanged_11 flX8_61 k0 rfl ?_
  refine Rx_callVv [] dX8_formulaHasChanged_14 clX8_229 rfl k1 (sp_forget d k1) rfl rfl rfl ?_
  exact Rx_vret dX8_formulaHasChanged_17 rfl
theorem rootC_cong {cs cs' : Nat → Int32} {n : Nat} {as : Int32} (h : ∀ i, i < n → cs i = cs' i) : rootC cs n as = rootC cs' n as := by
  unfold rootC
  rw [List.map_congr_left (fun i hi => h i (List.mem_range.mp hi))]
theorem clw_cong {cs cs' : Nat → Int32} {j : Nat} : ∀ {n : Nat}, (∀ i, i < n → cs i = cs' i) → clw cs j n = clw cs' j n
  | 0, _ => rfl
  | n + 1, h => by
    unfold clw
    rw [clw_cong (fun i hi => h i (by omega)), h n (by omega)]
theorem sp_freshGraph (d : Nat) {h : Hp} {n : Nat} {as : Int32} {cs w : Nat → Int32} {k : Nat} {sv : Nat → SC} {er : Nat → Int32} {tn : Nat} {tx : Nat → Int32} (x : CI h n as cs w k sv er tn tx) (ok : Gok cs n as) :
    Mq mX8_freshGraph (d + 28) [.ref 0] h (fun r h' => r = some (.ref 25) ∧ FC h h' ∧ CI h' n as cs w k sv er tn tx ∧ GH h' (rootC cs n as) (exS cs n as).1 (exS cs n as).2) := by
  obtain ⟨gf, mf, h0, s, hn, ⟨q, hi⟩, hk, hsv, ti, rd, cg, cm, wi, ce, h42⟩ := x
  have s0 := s
  obtain ⟨s1, ⟨f, s2, s3⟩, s4⟩ := s
  have e1 := rootC_cong (as := as) (fun i hi => s3 i (show i < 16 by omega) : ∀ i, i < n → f i = cs i)
  refine Mq_of [_] (by decide +kernel) rfl rfl ?_
  rcases cg with ⟨rfl, gx⟩ | ⟨rfl, gh⟩
  · have hx : Rk 11 (rootC f n as) ∧ (exC 11 (rootC f n as) ([], 0, 0, 0, 0)).2.1.length ≤ 1024 := by rw [e1]; exact ok
    have gx2 := gx
    obtain ⟨gf', ghd, gct, grs, grd, gdt, gat, ght, ghf, nr, nz, nd, nn, gcap, gNR, gNZ, gND, gNN, g25, -⟩ := gx2
    refine Rq_aload_n dX8_freshGraph_0 rfl ?_
    refine Rq_get dX8_freshGraph_1 flX8_69 h0 rfl ?_
    refine Rq_if_ne_f 23 dX8_freshGraph_4 (by decide) rfl ?_
    refine Rq_aload_n dX8_freshGraph_7 rfl ?_
    refine Rq_get dX8_freshGraph_8 flX8_40 h0 rfl ?_
    refine Rq_aload_n dX8_freshGraph_11 rfl ?_
    refine Rq_get dX8_freshGraph_12 flX8_12 h0 rfl ?_
    refine Rq_callVq [_] dX8_freshGraph_15 clX8_232 rfl g25 (sp_compile d hn hx.1 hx.2 gx s1 s2) rfl rfl rfl (fun rv h3 hq => ?_)
    obtain ⟨rfl, F, gh⟩ := hq
    rw [e1] at gh
    have k0 := F.at (by decide) (by decide) h0
    refine Rq_aload_n dX8_freshGraph_18 rfl ?_
    refine Rq_iconst (1) dX8_freshGraph_19 (by decide) ?_
    refine Rq_put [_, _, _, _, _, _, _, _, _, _, _] dX8_freshGraph_20 fpX8_69 k0 rfl okv_1 rfl ?_
    have k1 := hS (obX 1 mf) k0
    refine Rq_aload_n dX8_freshGraph_23 rfl ?_
    refine Rq_get dX8_freshGraph_24 flX8_40 k1 rfl ?_
    refine Rq_aret dX8_freshGraph_27 rfl (Or.inl ⟨_, rfl⟩) ?_
    have F2 : Fr [0] h3 (h3.set 0 (obX 1 mf)) := Fr.set (by decide)
    have ag : ∀ a b, 1 ≤ a → (b < 25 ∨ (31 < a ∧ b < 62)) → Ag a b h (h3.set 0 (obX 1 mf)) := fun a b h1 h2 k z1 z2 => by
      rw [F2.2 k (by simp; omega)]
      exact F.ag h2 k z1 z2
    refine ⟨rfl, F.c.trans (F2.c (by decide)), ⟨1, mf, k1, s0.ag (ag _ _ (by decide) (by decide)), hn, ⟨q, hi.ag (ag _ _ (by decide) (by decide))⟩, hk, hsv, ti.ag (ag _ _ (by decide) (by decide)), rd.ag (ag _ _ (by decide) (by decide)), Or.inr ⟨rfl, gh.fr F2 (by decide)⟩, cm.ag (ag _ _ (by decide) (by decide)), wi.ag (ag _ _ (by decide) (by decide)), ce.ag (ag _ _ (by decide) (by decide)), (ag 42 42 (by decide) (by decide) 42 (by decide) (by decide)).trans h42⟩, gh.fr F2 (by decide)⟩
  · refine Rq_aload_n dX8_freshGraph_0 rfl ?_
    refine Rq_get dX8_freshGraph_1 flX8_69 h0 rfl ?_
    refine Rq_if_ne_t 23 dX8_freshGraph_4 (by decide) (by decide) ?_
    refine Rq_aload_n dX8_freshGraph_23 rfl ?_
    refine Rq_get dX8_freshGraph_24 flX8_40 h0 rfl ?_
    refine Rq_aret dX8_freshGraph_27 rfl (Or.inl ⟨_, rfl⟩) ?_
    exact ⟨rfl, FC.rf h, ⟨1, mf, h0, s0, hn, ⟨q, hi⟩, hk, hsv, ti, rd, Or.inr ⟨rfl, gh⟩, cm, wi, ce, h42⟩, gh⟩
theorem sp_freshModels (d : Nat) {h : Hp} {n : Nat} {as : Int32} {cs w : Nat → Int32} {k : Nat} {sv : Nat → SC} {er : Nat → Int32} {tn : Nat} {tx : Nat → Int32} (x : CI h n as cs w k sv er tn tx) :
    Mq mX8_freshModelSet (d + 3) [.ref 0] h (fun r h' => r = some (.ref 32) ∧ FC h h' ∧ CI h' n as cs w k sv er tn tx ∧ Ag 38 41 h h' ∧ ∃ f, MI h' f ∧ ∀ j, j < 16 → f j = gW cs n as j) := by
  obtain ⟨gf, mf, h0, s, hn, ⟨q, hi⟩, hk, hsv, ti, rd, cg, cm, wi, ce, h42⟩ := x
  have s0 := s
  obtain ⟨s1, ⟨f, s2, s3⟩, s4⟩ := s
  obtain ⟨fm, m, hm⟩ := cm
  refine Mq_of [_] (by decide +kernel) rfl rfl ?_
  rcases hm with rfl | ⟨rfl, hm⟩
  · refine Rq_aload_n dX8_freshModelSet_0 rfl ?_
    refine Rq_get dX8_freshModelSet_1 flX8_73 h0 rfl ?_
    refine Rq_if_ne_f 23 dX8_freshModelSet_4 (by decide) rfl ?_
    refine Rq_aload_n dX8_freshModelSet_7 rfl ?_
    refine Rq_get dX8_freshModelSet_8 flX8_47 h0 rfl ?_
    refine Rq_aload_n dX8_freshModelSet_11 rfl ?_
    refine Rq_get dX8_freshModelSet_12 flX8_12 h0 rfl ?_
    refine Rq_callVq [_] dX8_freshModelSet_15 clX8_235 rfl m.1 (sp_fillM d hn m s1 s2) rfl rfl rfl (fun rv h3 hq => ?_)
    obtain ⟨rfl, F, f', m', hf'⟩ := hq
    have k0 := F.at (by decide) h0
    refine Rq_aload_n dX8_freshModelSet_18 rfl ?_
    refine Rq_iconst (1) dX8_freshModelSet_19 (by decide) ?_
    refine Rq_put [_, _, _, _, _, _, _, _, _, _, _] dX8_freshModelSet_20 fpX8_73 k0 rfl okv_1 rfl ?_
    have k1 := hS (obX gf 1) k0
    refine Rq_aload_n dX8_freshModelSet_23 rfl ?_
    refine Rq_get dX8_freshModelSet_24 flX8_47 k1 rfl ?_
    refine Rq_aret dX8_freshModelSet_27 rfl (Or.inl ⟨_, rfl⟩) ?_
    have F2 : Fr [0, 33, 34] h (h3.set 0 (obX gf 1)) := (F.mono (by decide)).trans (Fr.set (by decide))
    have hw : ∀ j, j < 16 → f' j = gW cs n as j := fun j hj => by
      rw [hf' j hj, clw_cong (fun i hi => s3 i (show i < 16 by omega))]
      rfl
    have m2 : MI (h3.set 0 (obX gf 1)) f' := m'.fr (T := [0]) (Fr.set (by decide)) (by decide) (by decide) (by decide)
    refine ⟨rfl, F2.c (by decide), ⟨gf, 1, k1, s0.ag (F2.ag (by decide)), hn, ⟨q, hi.ag (F2.ag (by decide))⟩, hk, hsv, ti.ag (F2.ag (by decide)), rd.ag (F2.ag (by decide)), cg.fr F2 (by decide), ⟨f', m2, Or.inr ⟨rfl, hw⟩⟩, wi.ag (F2.ag (by decide)), ce.ag (F2.ag (by decide)), F2.at (by decide) h42⟩, F2.ag (by decide), f', m2, hw⟩
  · refine Rq_aload_n dX8_freshModelSet_0 rfl ?_
    refine Rq_get dX8_freshModelSet_1 flX8_73 h0 rfl ?_
    refine Rq_if_ne_t 23 dX8_freshModelSet_4 (by decide) (by decide) ?_
    refine Rq_aload_n dX8_freshModelSet_23 rfl ?_
    refine Rq_get dX8_freshModelSet_24 flX8_47 h0 rfl ?_
    refine Rq_aret dX8_freshModelSet_27 rfl (Or.inl ⟨_, rfl⟩) ?_
    exact ⟨rfl, FC.rf h, ⟨gf, 1, h0, s0, hn, ⟨q, hi⟩, hk, hsv, ti, rd, cg, ⟨fm, m, Or.inr ⟨rfl, hm⟩⟩, wi, ce, h42⟩, fun _ _ _ => rfl, fm, m, hm⟩
