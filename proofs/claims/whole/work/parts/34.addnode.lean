/-! Graph: room for nodes, and a node more -/
def own (a : Nat) : Prop := (28 ≤ a ∧ a ≤ 31) ∨ 62 ≤ a
def lbC (cap : Nat) : Nat := if cap = 64 then 62 else if cap = 128 then 66 else if cap = 256 then 70 else if cap = 512 then 74 else 78
def LB (h : Hp) (cap : Nat) : Prop := 62 ≤ h.length ∧ h.length ≤ lbC cap ∧ ∀ k e, 62 ≤ k → h[k]? = some e → esz e ≤ 16384
def FG (h h' : Hp) : Prop := h.length ≤ h'.length ∧ ∀ k, k < 62 → (k < 25 ∨ 31 < k) → h'[k]? = h[k]?
theorem FG.rf (h : Hp) : FG h h := ⟨Nat.le_refl _, fun _ _ _ => rfl⟩
theorem FG.trans {h h1 h2 : Hp} (x : FG h h1) (y : FG h1 h2) : FG h h2 := ⟨Nat.le_trans x.1 y.1, fun k a b => (y.2 k a b).trans (x.2 k a b)⟩
theorem FG.at {h h1 : Hp} (x : FG h h1) {k : Nat} {e : va_E} (a : k < 62) (b : k < 25 ∨ 31 < k) (he : h[k]? = some e) : h1[k]? = some e := (x.2 k a b).trans he
theorem FG.set {h : Hp} {a : Nat} {e : va_E} (ha : (25 ≤ a ∧ a ≤ 31) ∨ 62 ≤ a) : FG h (h.set a e) := ⟨by rw [List.length_set]; exact Nat.le_refl _, fun k h1 h2 => hN (by omega)⟩
theorem FG.push {h : Hp} {e : va_E} (hl : 62 ≤ h.length) : FG h (h ++ [e]) := ⟨by simp, fun k h1 _ => List.getElem?_append_left (by omega)⟩
theorem hA {h : Hp} {k : Nat} {e : va_E} (x : va_E) (hk : h[k]? = some e) : (h ++ [x])[k]? = some e := by
  rw [List.getElem?_append_left (List.getElem?_eq_some_iff.mp hk).1]; exact hk
theorem hL {h : Hp} (x : va_E) : (h ++ [x])[h.length]? = some x := by
  rw [List.getElem?_append_right (Nat.le_refl _), Nat.sub_self]; rfl
theorem LB.set {h : Hp} {cap a : Nat} {e e' : va_E} (x : LB h cap) (ha : h[a]? = some e) (he : esz e' = esz e) : LB (h.set a e') cap := by
  refine ⟨by rw [List.length_set]; exact x.1, by rw [List.length_set]; exact x.2.1, fun k z hk hz => ?_⟩
  by_cases c : a = k
  · subst c
    rw [hS _ ha] at hz
    cases hz
    rw [he]
    exact x.2.2 _ _ hk ha
  · rw [hN c] at hz
    exact x.2.2 k z hk hz
theorem esz_push {h : Hp} {x : va_E} (hx : esz x ≤ 16384) (hh : ∀ k e, 62 ≤ k → h[k]? = some e → esz e ≤ 16384) : ∀ k e, 62 ≤ k → (h ++ [x])[k]? = some e → esz e ≤ 16384 := by
  intro k e hk he
  by_cases c : k < h.length
  · rw [List.getElem?_append_left c] at he
    exact hh k e hk he
  · rw [List.getElem?_append_right (by omega)] at he
    have : k - h.length = 0 := by
      have := (List.getElem?_eq_some_iff.mp he).1
      simp at this
      omega
    rw [this] at he
    cases he
    exact hx
theorem esz_set {h : Hp} {a : Nat} {e0 x : va_E} (ha : h[a]? = some e0) (hx : esz x = esz e0) (hh : ∀ k e, 62 ≤ k → h[k]? = some e → esz e ≤ 16384) : ∀ k e, 62 ≤ k → (h.set a x)[k]? = some e → esz e ≤ 16384 := by
  intro k e hk he
  by_cases c : a = k
  · subst c
    rw [hS _ ha] at he
    cases he
    rw [hx]
    exact hh _ _ hk ha
  · rw [hN c] at he
    exact hh k e hk he
section RM
variable {nr nz nd nn cap : Nat} {cnt rs rd dt at' ht hf : Int32}
theorem sp_makeRoom (d : Nat) {h : Hp} {NR NZ ND NN : Nat → Int32} (h1 : h[25]? = some (obG nr nz nd nn cnt rs rd dt at' ht hf)) (g1 : h[nr]? = some (aI (16 * cap) NR)) (g2 : h[nz]? = some (aI cap NZ)) (g3 : h[nd]? = some (aI cap ND)) (g4 : h[nn]? = some (aI cap NN)) (o1 : own nr) (o2 : own nz) (o3 : own nd) (o4 : own nn) (hc : capOK cap) (hc2 : cap < 1024) (lb : LB h cap) :
    Mq mX3_makeRoom (d + 2) [.ref 25] h (fun r h' => r = none ∧ FG h h' ∧ h'[26]? = h[26]? ∧ h'[27]? = h[27]? ∧ LB h' (2 * cap) ∧ ∃ a, 62 ≤ a ∧ h'[25]? = some (obG a (a + 1) (a + 2) (a + 3) cnt rs rd dt at' ht hf) ∧ h'[a]? = some (aI (16 * (2 * cap)) (va_cpy NR (fun _ => 0) 0 0 (16 * cap))) ∧ h'[a + 1]? = some (aI (2 * cap) (va_cpy NZ (fun _ => 0) 0 0 cap)) ∧ h'[a + 2]? = some (aI (2 * cap) (va_cpy ND (fun _ => 0) 0 0 cap)) ∧ h'[a + 3]? = some (aI (2 * cap) (va_cpy NN (fun _ => 0) 0 0 cap))) := by
  have hcl := hc.le
  have hc5 : cap ≤ 512 := by rcases hc with e | e | e | e | e <;> omega
  obtain ⟨l1, l2, l3⟩ := lb
  have p1 : nr ≠ 25 := by rcases o1 with o | o <;> omega
  have p2 : nz ≠ 25 := by rcases o2 with o | o <;> omega
  have p3 : nd ≠ 25 := by rcases o3 with o | o <;> omega
  have p4 : nn ≠ 25 := by rcases o4 with o | o <;> omega
  refine Mq_of [_, _] (by decide +kernel) rfl rfl ?_
  refine Rq_iconst (2) dX3_makeRoom_0 (by decide) ?_
  refine Rq_aload_n dX3_makeRoom_1 rfl ?_
  refine Rq_get dX3_makeRoom_2 flX3_21 h1 rfl ?_
  refine Rq_alenI dX3_makeRoom_5 g2 ?_
  refine Rq_imul dX3_makeRoom_6 ?_
  refine Rq_istore_n [_, _] dX3_makeRoom_7 rfl rfl rfl ?_
  rw [show (2 : Int32) = nI 2 from rfl, pk_mul]
  refine Rq_iload_n dX3_makeRoom_8 rfl ?_
  refine Rq_sipush (1024) dX3_makeRoom_9 (by decide) ?_
  refine Rq_icmp_le_t 16 dX3_makeRoom_12 (by decide) (nI_le (b := 1024) (by rcases hc with e | e | e | e | e <;> omega) (by decide)) ?_
  refine Rq_aload_n dX3_makeRoom_16 rfl ?_
  refine Rq_aload_n dX3_makeRoom_17 rfl ?_
  refine Rq_get dX3_makeRoom_18 flX3_18 h1 rfl ?_
  refine Rq_iload_n dX3_makeRoom_21 rfl ?_
  refine Rq_bipush (16) dX3_makeRoom_22 (by decide) ?_
  refine Rq_imul dX3_makeRoom_24 ?_
  rw [show (16 : Int32) = nI 16 from rfl, pk_mul, show 2 * cap * 16 = 16 * (2 * cap) by omega]
  refine Rq_callS [_, _] dX3_makeRoom_25 clX3_145 (sp_copyOf d g1 (by omega) (by omega)) rfl rfl rfl ?_
  generalize hA1 : aI (16 * (2 * cap)) (va_cpy NR (fun _ => 0) 0 0 (16 * cap)) = A1
  have eA1 : esz A1 = 16 * (2 * cap) := by rw [← hA1]; rfl
  have a1 := hA A1 h1
  refine Rq_put [_, _, _, _, _, _, _, _, _, _, _, _, _] dX3_makeRoom_28 fpX3_18 a1 rfl (okv_a _ _) rfl ?_
  have b1 := hS (obG h.length nz nd nn cnt rs rd dt at' ht hf) a1
  have b2 := hNs (e' := obG h.length nz nd nn cnt rs rd dt at' ht hf) (Ne.symm p2) (hA A1 g2)
  have b3 := hNs (e' := obG h.length nz nd nn cnt rs rd dt at' ht hf) (Ne.symm p3) (hA A1 g3)
  have b4 := hNs (e' := obG h.length nz nd nn cnt rs rd dt at' ht hf) (Ne.symm p4) (hA A1 g4)
  have b5 := hNs (e' := obG h.length nz nd nn cnt rs rd dt at' ht hf) (show (25 : Nat) ≠ h.length by omega) (hL (h := h) A1)
  have b6 : ((h ++ [A1]).set 25 (obG h.length nz nd nn cnt rs rd dt at' ht hf)).length = h.length + 1 := by simp
  have b7 : FG h ((h ++ [A1]).set 25 (obG h.length nz nd nn cnt rs rd dt at' ht hf)) := (FG.push l1).trans (FG.set (by omega))
  have b8 : ∀ k, k = 26 ∨ k = 27 → ((h ++ [A1]).set 25 (obG h.length nz nd nn cnt rs rd dt at' ht hf))[k]? = h[k]? := fun k hk => by rw [hN (by omega), List.getElem?_append_left (by omega)]
  have b9 := esz_set (x := obG h.length nz nd nn cnt rs rd dt at' ht hf) a1 rfl (esz_push (x := A1) (by rw [eA1]; omega) l3)
  generalize (h ++ [A1]).set 25 (obG h.length nz nd nn cnt rs rd dt at' ht hf) = hh1 at b1 b2 b3 b4 b5 b6 b7 b8 b9 ⊢
  refine Rq_aload_n dX3_makeRoom_31 rfl ?_
  refine Rq_aload_n dX3_makeRoom_32 rfl ?_
  refine Rq_get dX3_makeRoom_33 flX3_21 b1 rfl ?_
  refine Rq_iload_n dX3_makeRoom_36 rfl ?_
  refine Rq_callS [_, _] dX3_makeRoom_37 clX3_145 (sp_copyOf d b2 (show cap < 2 * cap by omega) (by omega)) rfl rfl rfl ?_
  generalize hA2 : aI (2 * cap) (va_cpy NZ (fun _ => 0) 0 0 cap) = A2
  have eA2 : esz A2 = 2 * cap := by rw [← hA2]; rfl
  have a2 := hA A2 b1
  refine Rq_put [_, _, _, _, _, _, _, _, _, _, _, _, _] dX3_makeRoom_40 fpX3_21 a2 rfl (okv_a _ _) rfl ?_
  rw [b6]
  have c1 := hS (obG h.length (h.length + 1) nd nn cnt rs rd dt at' ht hf) a2
  have c3 := hNs (e' := obG h.length (h.length + 1) nd nn cnt rs rd dt at' ht hf) (Ne.symm p3) (hA A2 b3)
  have c4 := hNs (e' := obG h.length (h.length + 1) nd nn cnt rs rd dt at' ht hf) (Ne.symm p4) (hA A2 b4)
  have c5 := hNs (e' := obG h.length (h.length + 1) nd nn cnt rs rd dt at' ht hf) (show (25 : Nat) ≠ h.length by omega) (hA A2 b5)
  have c5b := hNs (e' := obG h.length (h.length + 1) nd nn cnt rs rd dt at' ht hf) (show (25 : Nat) ≠ hh1.length by omega) (hL (h := hh1) A2)
  rw [b6] at c5b
  have c6 : ((hh1 ++ [A2]).set 25 (obG h.length (h.length + 1) nd nn cnt rs rd dt at' ht hf)).length = h.length + 2 := by simp [b6]
  have c7 : FG h ((hh1 ++ [A2]).set 25 (obG h.length (h.length + 1) nd nn cnt rs rd dt at' ht hf)) := b7.trans ((FG.push (by omega)).trans (FG.set (by omega)))
  have c8 : ∀ k, k = 26 ∨ k = 27 → ((hh1 ++ [A2]).set 25 (obG h.length (h.length + 1) nd nn cnt rs rd dt at' ht hf))[k]? = h[k]? := fun k hk => by rw [hN (by omega), List.getElem?_append_left (by omega), b8 k hk]
  have c9 := esz_set (x := obG h.length (h.length + 1) nd nn cnt rs rd dt at' ht hf) a2 rfl (esz_push (x := A2) (by rw [eA2]; omega) b9)
  generalize (hh1 ++ [A2]).set 25 (obG h.length (h.length + 1) nd nn cnt rs rd dt at' ht hf) = hh2 at c1 c3 c4 c5 c5b c6 c7 c8 c9 ⊢
  refine Rq_aload_n dX3_makeRoom_43 rfl ?_
  refine Rq_aload_n dX3_makeRoom_44 rfl ?_
  refine Rq_get dX3_makeRoom_45 flX3_24 c1 rfl ?_
  refine Rq_iload_n dX3_makeRoom_48 rfl ?_
  refine Rq_callS [_, _] dX3_makeRoom_49 clX3_145 (sp_copyOf d c3 (show cap < 2 * cap by omega) (by omega)) rfl rfl rfl ?_
  generalize hA3 : aI (2 * cap) (va_cpy ND (fun _ => 0) 0 0 cap) = A3
  have eA3 : esz A3 = 2 * cap := by rw [← hA3]; rfl
  have a3 := hA A3 c1
  refine Rq_put [_, _, _, _, _, _, _, _, _, _, _, _, _] dX3_makeRoom_52 fpX3_24 a3 rfl (okv_a _ _) rfl ?_
  rw [c6]
  have e1 := hS (obG h.length (h.length + 1) (h.length + 2) nn cnt rs rd dt at' ht hf) a3
  have e4 := hNs (e' := obG h.length (h.length + 1) (h.length + 2) nn cnt rs rd dt at' ht hf) (Ne.symm p4) (hA A3 c4)
  have e5 := hNs (e' := obG h.length (h.length + 1) (h.length + 2) nn cnt rs rd dt at' ht hf) (show (25 : Nat) ≠ h.length by omega) (hA A3 c5)
  have e5b := hNs (e' := obG h.length (h.length + 1) (h.length + 2) nn cnt rs rd dt at' ht hf) (show (25 : Nat) ≠ h.length + 1 by omega) (hA A3 c5b)
  have e5c := hNs (e' := obG h.length (h.length + 1) (h.length + 2) nn cnt rs rd dt at' ht hf) (show (25 : Nat) ≠ hh2.length by omega) (hL (h := hh2) A3)
  rw [c6] at e5c
  have e6 : ((hh2 ++ [A3]).set 25 (obG h.length (h.length + 1) (h.length + 2) nn cnt rs rd dt at' ht hf)).length = h.length + 3 := by simp [c6]
  have e7 : FG h ((hh2 ++ [A3]).set 25 (obG h.length (h.length + 1) (h.length + 2) nn cnt rs rd dt at' ht hf)) := c7.trans ((FG.push (by omega)).trans (FG.set (by omega)))
  have e8 : ∀ k, k = 26 ∨ k = 27 → ((hh2 ++ [A3]).set 25 (obG h.length (h.length + 1) (h.length + 2) nn cnt rs rd dt at' ht hf))[k]? = h[k]? := fun k hk => by rw [hN (by omega), List.getElem?_append_left (by omega), c8 k hk]
  have e9 := esz_set (x := obG h.length (h.length + 1) (h.length + 2) nn cnt rs rd dt at' ht hf) a3 rfl (esz_push (x := A3) (by rw [eA3]; omega) c9)
  generalize (hh2 ++ [A3]).set 25 (obG h.length (h.length + 1) (h.length + 2) nn cnt rs rd dt at' ht hf) = hh3 at e1 e4 e5 e5b e5c e6 e7 e8 e9 ⊢
  refine Rq_aload_n dX3_makeRoom_55 rfl ?_
  refine Rq_aload_n dX3_makeRoom_56 rfl ?_
  refine Rq_get dX3_makeRoom_57 flX3_27 e1 rfl ?_
  refine Rq_iload_n dX3_makeRoom_60 rfl ?_
  refine Rq_callS [_, _] dX3_makeRoom_61 clX3_145 (sp_copyOf d e4 (show cap < 2 * cap by omega) (by omega)) rfl rfl rfl ?_
  generalize hA4 : aI (2 * cap) (va_cpy NN (fun _ => 0) 0 0 cap) = A4
  have eA4 : esz A4 = 2 * cap := by rw [← hA4]; rfl
  have a4 := hA A4 e1
  refine Rq_put [_, _, _, _, _, _, _, _, _, _, _, _, _] dX3_makeRoom_64 fpX3_27 a4 rfl (okv_a _ _) rfl ?_
  rw [e6]
  refine Rq_vret dX3_makeRoom_67 rfl ?_
  refine ⟨rfl, e7.trans ((FG.push (by omega)).trans (FG.set (by omega))), by rw [hN (by decide), List.getElem?_append_left (by omega), e8 26 (Or.inl rfl)], by rw [hN (by decide), List.getElem?_append_left (by omega), e8 27 (Or.inr rfl)], ⟨by rw [List.length_set, List.length_append, List.length_singleton, e6]; omega, ?_, esz_set a4 rfl (esz_push (x := A4) (by rw [eA4]; omega) e9)⟩, h.length, l1, hS _ a4, hNs (by omega) (hA A4 e5), hNs (by omega) (hA A4 e5b), hNs (by omega) (hA A4 e5c), ?_⟩
  · rw [List.length_set, List.length_append, List.length_singleton, e6]
    have : lbC cap + 4 ≤ lbC (2 * cap) := by rcases hc with e | e | e | e | e <;> subst e <;> first | decide | omega
    omega
  · have := hNs (e' := obG h.length (h.length + 1) (h.length + 2) (h.length + 3) cnt rs rd dt at' ht hf) (show (25 : Nat) ≠ hh3.length by omega) (hL (h := hh3) A4)
    rw [e6] at this
    exact this
end RM
