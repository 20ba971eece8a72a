/-! the law: a walk of its body over the list heap -/
def LC (p : Program) (s : State) (m : MethodId) (meth : Method) (c : Code) (D : va_G) (cA : Nat → ClassId) (scr L : Nat) (xs : Nat → Int32) : Prop :=
  p.tables.exec = Jvm.exec ∧ c.code = code ∧ c.maxLocals = 4 ∧ meth.sig.returnType = ret ∧ meth.locks = false ∧ s.vm.findClass R_law = some m.cls ∧ (∀ w ∈ gtbl, w.before #[Value.ref scr] s = true) ∧ va_K D vwCl (tyz cA) s ∧ NW s.heap.size s ∧ va_X scr L xs s s.heap ∧ scr < s.heap.size
def LW (p : Program) (l : Launch) (e : Env) (s : State) (m : MethodId) (below : List Frame) (meth : Method) (c : Code) (D : va_G) (cA : Nat → ClassId) (scr : Nat) (lv : List (Nat × Value)) (pc : Nat) (st : List Value) (h : Hp) : Prop :=
  ∀ (H : Heap) (locs : List Loc) (LS : Array Slot), Wd D cA s.heap.size s h.length h H locs → lv_has LS 4 lv → W p l e room_1 s m #[Value.ref scr] below meth c H locs h.length (hsz h) (lw_Z below #[Value.ref scr] s) (F0 m pc LS (st.map (mp s.heap.size)))
section LR
variable {p : Program} {l : Launch} {e : Env} {s : State} {m : MethodId} {below : List Frame} {meth : Method} {c : Code} {D : va_G} {cA : Nat → ClassId} {scr L : Nat} {xs : Nat → Int32} {lv : List (Nat × Value)} {pc : Nat} {st rest : List Value} {h : Hp}
theorem LW_call {M' : Mi} {as : List Value} {rv : Option Value} {h1 : Hp} (hM : Mx M' 64 as h rv h1) (hc : h1.length ≤ 600000 ∧ hsz h1 ≤ 7302250)
    (f : ∀ (H : Heap) (locs : List Loc) (LS : Array Slot), Wd D cA s.heap.size s h.length h H locs → LS.size = 4 → (h.length + (h1.length - h.length) ≤ room_1.cells ∧ hsz h + (hsz h1 - hsz h) ≤ room_1.slots) → ∃ a, va_Run p l e room_1 s m #[Value.ref scr] below meth c H locs h.length (hsz h) (h1.length - h.length) (hsz h1 - hsz h) (F0 m pc LS (st.map (mp s.heap.size))) (rest.map (mp s.heap.size)) (QX D cA s.heap.size rv h1 a) (fun q => s.heap.size ≤ q))
    (K : LW p l e s m below meth c D cA scr lv (pc + 3) (rv.toList ++ rest) h1) : LW p l e s m below meth c D cA scr lv pc st h := by
  intro H locs LS hw hl
  have g1 := hM.1.len
  have g2 := hM.2.1
  have e1 : h.length + (h1.length - h.length) = h1.length := by omega
  have e2 : hsz h + (hsz h1 - hsz h) = hsz h1 := by omega
  obtain ⟨a, hrun⟩ := f H locs LS hw hl.1 ⟨by rw [e1]; exact hc.1, by rw [e2]; exact hc.2⟩
  intro T hT X
  obtain ⟨v, st₀, t, T', L', h0, X', hL, t1, t2, ⟨hv, q1, q2, q3⟩, stp⟩ := hrun T hT X
  have hv' : v = rv.map (mp s.heap.size) := by cases hv; rfl
  subst hv'
  obtain ⟨w1, w2, w3, w4, w5⟩ := hw
  rw [e1, e2] at X'
  have hw' : Wd D cA s.heap.size s h1.length h1 T'.heap (locs ++ L') := by
    refine ⟨by rw [t1]; exact q1, by rw [t1]; exact q2, ⟨?_, fun q z1 z2 => ?_, fun q hq => ?_⟩, w4, by rw [t1, q2]⟩
    · rw [t1]
      have := q3.1
      rw [h0] at this
      exact Nat.le_trans w3.1 this
    · rw [t1, q3.2 q (by rw [h0]; exact Nat.lt_of_lt_of_le z1 w3.1) z2, h0]
      exact w3.2.1 q z1 z2
    · rcases List.mem_append.mp hq with z | z
      · exact w3.2.2 q z
      · exact hL q z
  have kk := K T'.heap (locs ++ L') LS hw' hl
  have es : (rv.toList ++ rest).map (mp s.heap.size) = (rv.map (mp s.heap.size)).toList ++ rest.map (mp s.heap.size) := by cases rv <;> simp
  rw [es] at kk
  obtain ⟨t3, a1, b1⟩ := kk T' rfl X'
  exact ⟨t3, stp t3 a1, b1⟩
theorem LPX_pre {as : List Value} {H : Heap} {locs : List Loc} {k : Nat} (C : LC p s m meth c D cA scr L xs) (w : Wd D cA s.heap.size s k h H locs) : ∀ U : State, U.heap = H → s.WarmedH U.vm → PX D cA s.heap.size as h (as.map (mp s.heap.size)).toArray U := by
  intro U hU hW
  obtain ⟨c1, c2, c3, c4, c5, c6, c7, c8, c9, c10, c11⟩ := C
  exact ⟨rfl, by rw [hU]; exact w.1, by rw [hU]; exact w.2.1, va_K.moved hW.alike c8, NW_warm c9 hU w.2.2.1 hW⟩
theorem LW_runV {M' : Mi} {idx n a ci : Nat} {fs As : List Value} {rv : Option Value} {h1 : Hp} (C : LC p s m meth c D cA scr L xs) (hd : decode code pc = .ok (.invokevirtual idx, 3)) (hl : CLv R_law idx M' n) (hci : vwCl[ci]?.map (fun q => q.1) = some M'.1.cls) (hrec : h[a]? = some (.inr (ci, fs))) (hM : Mx M' 64 (.ref a :: As) h rv h1) (hn : As.length = n) (hst : As.reverse ++ .ref a :: rest = st) (hroom : Nat.ble (rest.map fun v => v.category).sum 8 = true) (hc : h1.length ≤ 600000 ∧ hsz h1 ≤ 7302250) (K : LW p l e s m below meth c D cA scr lv (pc + 3) (rv.toList ++ rest) h1) : LW p l e s m below meth c D cA scr lv pc st h := by
  subst hst
  obtain ⟨⟨l1, l2, l3, l4, l5⟩, l6, l7⟩ := hl
  refine LW_call hM hc (fun H locs LS w hsz hf => ⟨((Value.ref a :: As).map (mp s.heap.size)).toArray, ?_⟩) K
  have C0 := C
  obtain ⟨c1, c2, c3, c4, c5, c6, c7, c8, c9, c10, c11⟩ := C
  have l4' := Nat.le_of_ble_eq_true l4
  have hR : (rmx 64 h h1).frames + 1 ≤ room_1.frames ∧ 8 + (M'.2.2.1 + 11) + (rmx 64 h h1).locals ≤ room_1.locals := ⟨by show 64 + 1 ≤ 2048; decide, by show 8 + (M'.2.2.1 + 11) + 64 * 64 ≤ 84000; omega⟩
  obtain ⟨q, hq, hq2⟩ : ∃ q, vwCl[ci]? = some q ∧ q.1 = M'.1.cls := by
    cases hx : vwCl[ci]? with
    | none => rw [hx] at hci; cases hci
    | some q => rw [hx] at hci; exact ⟨q, rfl, Option.some.inj hci⟩
  have hrecv := va_recv (ci := ci) (q0 := a) c8 w.1 hq (wz_at (cA := cA) (b := s.heap.size) hrec)
  rw [hq2] at hrecv
  have hstack : (As.reverse ++ Value.ref a :: rest).map (mp s.heap.size) = (As.map (mp s.heap.size)).reverse ++ .ref (s.heap.size + a) :: rest.map (mp s.heap.size) := by simp [mp]
  have hcat : 2 * (F0 m pc LS ((As.reverse ++ Value.ref a :: rest).map (mp s.heap.size))).monitorRoom + ((rest.map (mp s.heap.size)).map fun v => v.category).sum ≤ 8 := lv_room (by rw [cat_sum]; exact Nat.le_of_ble_eq_true hroom)
  have hpre : PreV s H M'.1.cls (s.heap.size + a) (PX D cA s.heap.size (Value.ref a :: As) h) (As.map (mp s.heap.size)) := ⟨PX_blind, hrecv, LPX_pre C0 w⟩
  rcases l5 with l5 | ⟨host, l5⟩
  · exact va_runV (own := R_law) (C := M'.1.cls) (Ts := gtbl) (nL := 4) ⟨c1, c2, c3, c6, c7⟩ (hM.2.2 l D cA s.heap.size) ⟨callB_of n c7 (ws_good l1) rfl rfl rfl (c7 _ l2) (c7 _ l5) l3 hR, c7 _ l6, c7 _ l7⟩ hpre rfl (by rw [List.length_map]; exact hn) hsz hstack hcat hd hf
  · exact va_runVN (own := R_law) (C := M'.1.cls) (Ts := gtbl) (nL := 4) ⟨c1, c2, c3, c6, c7⟩ (hM.2.2 l D cA s.heap.size) ⟨va_cnB n c7 (ws_good l1) rfl rfl rfl (c9.1 _ l5 rfl) (c7 _ l2) l3 hR, c7 _ l6, c7 _ l7⟩ hpre rfl (by rw [List.length_map]; exact hn) hsz hstack hcat hd hf
theorem LW_runI {M' : Mi} {idx n a : Nat} {As : List Value} {h1 : Hp} (C : LC p s m meth c D cA scr L xs) (hd : decode code pc = .ok (.invokespecial idx, 3)) (hl : CLi R_law idx M' n) (hM : Mx M' 64 (.ref a :: As) h none h1) (hn : As.length = n) (hst : As.reverse ++ .ref a :: rest = st) (hroom : Nat.ble (rest.map fun v => v.category).sum 8 = true) (hc : h1.length ≤ 600000 ∧ hsz h1 ≤ 7302250) (K : LW p l e s m below meth c D cA scr lv (pc + 3) rest h1) : LW p l e s m below meth c D cA scr lv pc st h := by
  subst hst
  obtain ⟨⟨l1, l2, l3, l4, l5⟩, l6, l7, l8⟩ := hl
  refine LW_call hM hc (fun H locs LS w hsz hf => ⟨((Value.ref a :: As).map (mp s.heap.size)).toArray, ?_⟩) K
  have C0 := C
  obtain ⟨c1, c2, c3, c4, c5, c6, c7, c8, c9, c10, c11⟩ := C
  have l4' := Nat.le_of_ble_eq_true l4
  have hR : (rmx 64 h h1).frames + 1 ≤ room_1.frames ∧ 8 + (M'.2.2.1 + 11) + (rmx 64 h h1).locals ≤ room_1.locals := ⟨by show 64 + 1 ≤ 2048; decide, by show 8 + (M'.2.2.1 + 11) + 64 * 64 ≤ 84000; omega⟩
  have hstack : (As.reverse ++ Value.ref a :: rest).map (mp s.heap.size) = (As.map (mp s.heap.size)).reverse ++ .ref (s.heap.size + a) :: rest.map (mp s.heap.size) := by simp [mp]
  have hcat : 2 * (F0 m pc LS ((As.reverse ++ Value.ref a :: rest).map (mp s.heap.size))).monitorRoom + ((rest.map (mp s.heap.size)).map fun v => v.category).sum ≤ 8 := lv_room (by rw [cat_sum]; exact Nat.le_of_ble_eq_true hroom)
  have hpre : PreS s H (PX D cA s.heap.size (Value.ref a :: As) h) (.ref (s.heap.size + a) :: As.map (mp s.heap.size)) := ⟨PX_blind, LPX_pre C0 w⟩
  have hw : wsM M' = Cond.code M'.1 M'.2.1 M'.2.2.1 none :: gtbl := by rw [← l8]; rfl
  rcases l5 with l5 | ⟨host, l5⟩
  · exact va_runI (own := R_law) (Ts := gtbl) (nL := 4) ⟨c1, c2, c3, c6, c7⟩ (hM.2.2 l D cA s.heap.size) ⟨callB_of n c7 (ws_good l1) hw rfl rfl (c7 _ l2) (c7 _ l5) l3 hR, l7, c7 _ l6⟩ hpre rfl (by rw [List.length_map]; exact hn) hsz hstack hcat hd hf
  · exact va_runIN (own := R_law) (Ts := gtbl) (nL := 4) ⟨c1, c2, c3, c6, c7⟩ (hM.2.2 l D cA s.heap.size) ⟨va_cnB n c7 (ws_good l1) hw rfl rfl (c9.1 _ l5 rfl) (c7 _ l2) l3 hR, l7, c7 _ l6⟩ hpre rfl (by rw [List.length_map]; exact hn) hsz hstack hcat hd hf
theorem LW_new {idx ci : Nat} {fs : List Value} (C : LC p s m meth c D cA scr L xs) (hd : decode code pc = .ok (.new idx, 3)) (hl : NL R_law idx ci fs) (hc : h.length + 1 ≤ 600000 ∧ hsz h + fs.length ≤ 7302250) (K : LW p l e s m below meth c D cA scr lv (pc + 3) (.ref h.length :: st) (h ++ [.inr (ci, fs)])) : LW p l e s m below meth c D cA scr lv pc st h := by
  intro H locs LS hw hlv
  obtain ⟨c1, c2, c3, c4, c5, c6, c7, c8, c9, c10, c11⟩ := C
  obtain ⟨q, ty, h1, h2, h3, h4, h5, h6, h7, h8⟩ := hl
  obtain ⟨hP, hs, hS, hb, hcc⟩ := hw
  have em : mE cA s.heap.size (.inr (ci, fs)) = .inr (ci, fs) := by show Sum.inr (ci, fs.map (mp s.heap.size)) = _; rw [h5]
  refine va_new (ci := ci) (fs := fs) c1 c2 c7 (cl_in h1) ty h2 c6 (c7 _ h6) (c7 _ h7) (c7 _ h8) c8 hP (wz_D cA s.heap.size h) (A := fun q => s.heap.size ≤ q) (H0 := H) ⟨Nat.le_refl _, fun _ _ _ => rfl, hS.2.2⟩ (fun q hq => by omega) h1 h3 (by show h.length + 1 ≤ 600000; exact hc.1) (by show hsz h + q.2.2 ≤ 7302250; rw [← h4]; exact hc.2) hd (fun q0 H1 hP1 hD1 hS1 => ?_)
  intro T hT X
  have hlast : (wz cA s.heap.size h ++ [(q0, (.inr (ci, fs) : va_E))])[h.length]? = some (q0, .inr (ci, fs)) := by
    rw [List.getElem?_append_right (by rw [wz_len]; exact Nat.le_refl _), wz_len, Nat.sub_self]; rfl
  have hz0 : H1.size ≤ s.heap.size + (h.length + 1) := by rw [← hT]; exact Wd.size X
  have hq1 : q0 < H1.size := (hP1 _ _ hlast).lt
  have hq2 : s.heap.size ≤ q0 := hD1.2 _ _ hlast
  have hq3 : q0 = s.heap.size + h.length := by
    rcases Nat.lt_or_ge q0 (s.heap.size + h.length) with hlt | hge
    · exfalso
      have hk : q0 - s.heap.size < h.length := by omega
      obtain ⟨e0, he0⟩ : ∃ e0, h[q0 - s.heap.size]? = some e0 := ⟨_, List.getElem?_eq_getElem hk⟩
      have hat : (wz cA s.heap.size h ++ [(q0, (.inr (ci, fs) : va_E))])[q0 - s.heap.size]? = some (s.heap.size + (q0 - s.heap.size), mE cA s.heap.size e0) := by
        rw [List.getElem?_append_left (by rw [wz_len]; exact hk)]
        exact wz_at he0
      have := hD1.1 _ _ _ _ hat hlast (by show s.heap.size + (q0 - s.heap.size) = q0; omega)
      omega
    · omega
  have hz1 : H1.size = H.size + 1 := by omega
  subst hq3
  have e1' : (h ++ [(.inr (ci, fs) : va_E)]).length = h.length + 1 := by simp
  have e2' : hsz (h ++ [(.inr (ci, fs) : va_E)]) = hsz h + q.2.2 := by rw [hsz_push]; exact congrArg _ h4
  have hw1 : Wd D cA s.heap.size s (h ++ [(.inr (ci, fs) : va_E)]).length (h ++ [.inr (ci, fs)]) H1 locs := by
    refine ⟨by rw [wz_push, em]; exact hP1, by rw [hz1, hs, e1']; omega, ⟨Nat.le_trans hS.1 hS1.1, fun q h1 h2 => ?_, hS1.2.2⟩, hb, by rw [e1']; omega⟩
    rw [hS1.2.1 q (Nat.lt_of_lt_of_le h1 hS.1) h2]
    exact hS.2.1 q h1 h2
  have kk := K H1 locs LS hw1 hlv
  rw [e1', e2'] at kk
  exact kk T hT X
/-! single instructions -/
theorem LW_aload {k : Fin 4} {i j a : Nat} (C : LC p s m meth c D cA scr L xs) (hd : decode code pc = .ok (.aload_n k, 1)) (hk : (k : Nat) = i) (hj : lv[j]? = some (i, .ref (s.heap.size + a))) (K : LW p l e s m below meth c D cA scr lv (pc + 1) (.ref a :: st) h) : LW p l e s m below meth c D cA scr lv pc st h :=
  fun H locs LS hw hl => lv_aload_n C.1 C.2.1 hd hk (lv_at hl j hj) (K H locs LS hw hl)
/-- script[i + k] -/
theorem LW_ld {i : Int32} {kc : Int} {j a b : Nat} (C : LC p s m meth c D cA scr L xs) (h1 : decode code pc = .ok (.aload_n 0, 1)) (h2 : decode code (pc + 1) = .ok (.iload_n 3, 1)) (h3 : decode code (pc + 1 + 1) = .ok (.iconst kc, 1)) (h4 : decode code (pc + 1 + 1 + 1) = .ok (.iadd, 1)) (h5 : decode code (pc + 1 + 1 + 1 + 1) = .ok (.iaload, 1)) (ha : lv[a]? = some (0, .ref scr)) (hb : lv[b]? = some (3, .int i)) (hv : i + Int32.ofInt kc = nI j) (hj : j < L) (hL : L < 2 ^ 31) (K : LW p l e s m below meth c D cA scr lv (pc + 5) (.int (xs j) :: st) h) : LW p l e s m below meth c D cA scr lv pc st h := by
  intro H locs LS hw hl
  obtain ⟨c1, c2, c3, c4, c5, c6, c7, c8, c9, c10, c11⟩ := C
  refine lv_aload_n c1 c2 h1 rfl (lv_at hl a ha) ?_
  refine lv_iload_n c1 c2 h2 rfl (lv_at hl b hb) ?_
  refine lv_iconst c1 c2 h3 rfl ?_
  refine lv_iadd c1 c2 h4 ?_
  rw [hv]
  refine va_sld (A := fun q => s.heap.size ≤ q) c1 c2 c10 c11 (Nat.not_le.mpr c11) hw.2.2.1 (vp_in_nI hj hL) h5 ?_
  rw [nI_clamp (by omega)]
  exact K H locs LS hw hl
theorem LW_eq {v : Int32} {off : Int} (tgt : Nat) (C : LC p s m meth c D cA scr L xs) (hd : decode code pc = .ok (.if_icmp .eq off, 3)) (ht : (pc : Int) + off = (tgt : Int)) (K : LW p l e s m below meth c D cA scr lv tgt st h) : LW p l e s m below meth c D cA scr lv pc (.int v :: .int v :: st) h :=
  fun H locs LS hw hl => lv_icmp_eq C.1 C.2.1 hd ht (fun _ => K H locs LS hw hl) (fun z => absurd rfl z)
theorem LW_eqL {v : Int64} {off : Int} (tgt : Nat) (C : LC p s m meth c D cA scr L xs) (h1 : decode code pc = .ok (.lcmp, 1)) (hd : decode code (pc + 1) = .ok (.ifCond .eq off, 3)) (ht : ((pc + 1 : Nat) : Int) + off = (tgt : Int)) (K : LW p l e s m below meth c D cA scr lv tgt st h) : LW p l e s m below meth c D cA scr lv pc (.long v :: .long v :: st) h :=
  fun H locs LS hw hl => W.lcmp C.1 C.2.1 h1 (lv_if_eq C.1 C.2.1 hd ht (fun _ => K H locs LS hw hl) (fun z => absurd (by unfold lg_cmp; rw [if_neg Int64.lt_irrefl, if_pos rfl]) z))
/-- one case of the law: both calls, and on -/
theorem LW_pair {M8 M9 : Mi} {i8 i9 n n9 : Nat} {As : List Value} {P : Value → Prop} {pc9 : Nat} {ob : List Value} (C : LC p s m meth c D cA scr L xs) (hcl : h[0]? = some (.inr (8, ob))) (hP : PV M8 M9 As h P) (gz : Gz HA h) (hcap : ∀ h2, LI h2 → Gz HA h2 → h2.length ≤ 600000 ∧ hsz h2 ≤ 7302250)
    (hd8 : decode code pc = .ok (.invokevirtual i8, 3)) (hl8 : CLv R_law i8 M8 n) (hc8 : M8.1.cls = RX8) (hn8 : As.length = n) (hd9 : decode code pc9 = .ok (.invokevirtual i9, 3)) (hl9 : CLv R_law i9 M9 n9) (hc9 : M9.1.cls = RX9) (hn9 : As.length = n9)
    (mid : ∀ (v : Value) (h1 : Hp), P v → LW p l e s m below meth c D cA scr lv pc9 (As.reverse ++ [.ref 43, v]) h1 → LW p l e s m below meth c D cA scr lv (pc + 3) [v] h1)
    (fin : ∀ (v : Value) (h2 : Hp), P v → LI h2 → Gz HA h2 → LW p l e s m below meth c D cA scr lv (pc9 + 3) [v, v] h2) (hcv : ∀ v, P v → Nat.ble v.category 8 = true) : LW p l e s m below meth c D cA scr lv pc (As.reverse ++ [.ref 0]) h := by
  obtain ⟨r, h1, ⟨v, hv, rfl, ⟨fs, h43⟩, r2, h2, ⟨rfl, li⟩, m9⟩, m8⟩ := hP
  have g1 := gz.trans m8.1
  have g2 := g1.trans m9.1
  have cap := hcap h2 li g2
  have c1 : h1.length ≤ 600000 ∧ hsz h1 ≤ 7302250 := ⟨Nat.le_trans m9.1.len cap.1, Nat.le_trans m9.2.1 cap.2⟩
  refine LW_runV C hd8 hl8 (ci := 8) (by rw [hc8]; rfl) hcl m8 hn8 rfl rfl c1 ?_
  refine mid v h1 hv ?_
  exact LW_runV C hd9 hl9 (ci := 9) (rest := [v]) (by rw [hc9]; rfl) h43 m9 hn9 rfl (by simp only [List.map_cons, List.map_nil, List.sum_cons, List.sum_nil, Nat.add_zero]; exact hcv v hv) cap (fin v h2 hv li g2)
end LR
