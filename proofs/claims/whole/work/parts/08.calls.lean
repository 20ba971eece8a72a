/-! a whole call, and the rules of calls -/
def ent : List Value → List Value
  | [] => []
  | v :: vs => match v with
    | .long x => .long x :: .retAddr 0 :: ent vs
    | .double x => .double x :: .retAddr 0 :: ent vs
    | v => v :: ent vs
def pad : Nat → List Value → List Value
  | 0, _ => []
  | n + 1, [] => .retAddr 0 :: pad n []
  | n + 1, v :: l => v :: pad n l
theorem lat_pad {n : Nat} : ∀ {l : List Value} {k : Nat} {v : Value}, lat (pad n l) k = some v → jn v = false → lat l k = some v := by
  induction n with
  | zero => intro l k v h; cases h
  | succ n ih =>
    intro l k v h hj
    cases l with
    | nil =>
      cases k with
      | zero =>
        simp only [pad, lat, Option.some.injEq] at h
        subst h
        cases hj
      | succ k =>
        have := ih (l := []) (k := k) (v := v) h hj
        simp [lat] at this
    | cons a l =>
      cases k with
      | zero => exact h
      | succ k => exact ih (l := l) (k := k) (v := v) h hj
theorem ent_len (b : Nat) (as : List Value) : (lg_sl (as.map (mp b))).length = (ent as).length := by
  induction as with
  | nil => rfl
  | cons v vs ih =>
    have e : lg_sl ((v :: vs).map (mp b)) = (if (mp b v).category = 2 then [.val (mp b v), .second] else [.val (mp b v)]) ++ lg_sl (vs.map (mp b)) := by simp [lg_sl]
    rw [e, List.length_append, ih]
    cases v <;> simp [mp, ent, Value.category] <;> omega
theorem ent_args (b : Nat) : ∀ (as : List Value) (i k : Nat) (v : Value), lat (ent as) k = some v → jn v = false → (i + k, mp b v) ∈ lv_args i (as.map (mp b)) := by
  intro as
  induction as with
  | nil => intro i k v h; cases h
  | cons a as ih =>
    intro i k v h hj
    have two : ∀ (w : Value), (mp b w).category = 2 → lat (w :: .retAddr 0 :: ent as) k = some v → (i + k, mp b v) ∈ lv_args i (mp b w :: as.map (mp b)) := by
      intro w hw h
      simp only [lv_args, hw, if_true]
      cases k with
      | zero => cases h; exact List.mem_cons_self
      | succ k =>
        cases k with
        | zero => cases h; cases hj
        | succ k =>
          have := ih (i + 2) k v h hj
          refine List.mem_cons_of_mem _ ?_
          rwa [show i + (k + 1 + 1) = i + 2 + k by omega]
    have one : ∀ (w : Value), ¬ (mp b w).category = 2 → lat (w :: ent as) k = some v → (i + k, mp b v) ∈ lv_args i (mp b w :: as.map (mp b)) := by
      intro w hw h
      simp only [lv_args, if_neg hw]
      cases k with
      | zero => cases h; exact List.mem_cons_self
      | succ k =>
        have := ih (i + 1) k v h hj
        refine List.mem_cons_of_mem _ ?_
        rwa [show i + (k + 1) = i + 1 + k by omega]
    cases a with
    | long x => exact two (.long x) rfl h
    | double x => exact two (.double x) rfl h
    | int x => exact one (.int x) (by intro z; cases z) h
    | float x => exact one (.float x) (by intro z; cases z) h
    | null => exact one .null (by intro z; cases z) h
    | ref x => exact one (.ref x) (by intro z; cases z) h
    | retAddr x => exact one (.retAddr x) (by intro z; cases z) h
theorem Mx_of {M : Mi} {d : Nat} {as : List Value} {h : Hp} {r : Option Value} {h' : Hp} (ls : List Value) (hp : plainName M.1.cls = true) (hen : Nat.ble (ent as).length M.2.2.1 = true) (hls : pad M.2.2.1 (ent as) = ls) (K : Rx M d 0 ls [] h r h') : Mx M d as h r h' := by
  subst hls
  obtain ⟨k1, k2, k3⟩ := K
  refine ⟨k1, k2, fun l D cA b => ?_⟩
  refine Met.ofW (cc := M.2.1) (maxL := M.2.2.1) (ret := M.2.2.2) hp rfl ?_
  intro p e s m args below meth c s₁ B hml hv
  obtain ⟨rfl, hP, hsz, hK, hN⟩ := hv
  have hts := atoms_spec (ws := wsM M) B.pre
  have hl := lv_entry (as.map (mp b)) (n := M.2.2.1) (by rw [ent_len]; exact Nat.le_of_ble_eq_true hen)
  rw [lg_entry_eq]
  generalize (lg_sl (as.map (mp b)) ++ List.replicate (M.2.2.1 - (lg_sl (as.map (mp b))).length) Slot.unset).toArray = LS at hl ⊢
  have C : Cx M p s m (as.map (mp b)).toArray meth c D cA b := ⟨B.exec, B.bytes, hml, B.returns, B.notSynchronized, (name_of_methodNamed B.named B.method).1, findClass_of_methodNamed B.named, fun w hw => hts w (List.mem_cons_of_mem _ hw), hK, hN⟩
  have hL : LR b M.2.2.1 LS (pad M.2.2.1 (ent as)) := ⟨hl.1, hl.2.1, fun k v hk hj => by
    have := hl.2.2 _ (ent_args b as 0 k v (lat_pad hk hj) hj)
    rwa [Nat.zero_add] at this⟩
  have kk := k3 p l e (rmx d h h') s m (as.map (mp b)).toArray below meth c D cA b s.heap [] 0 0 LS C ⟨Nat.le_refl _, Nat.le_refl _, by simp [rmx], by simp [rmx]⟩ ⟨hP, hsz, va_S.rf, by omega, rfl⟩ hL
  rw [Nat.zero_add, Nat.zero_add] at kk
  exact kk
theorem Rx.call {M : Mi} {d pc : Nat} {ls st rest : List Value} {h h1 h' : Hp} {r rv : Option Value} (g0 : Gz h h1) (g2 : hsz h ≤ hsz h1) (K : Rx M d (pc + 3) ls (rv.toList ++ rest) h1 r h')
    (f : ∀ {p : Program} {l : Launch} {e : Env} {R : Room} {s : State} {m : MethodId} {args : Array Value} {below : List Frame} {meth : Method} {c : Code} {D : va_G} {cA : Nat → ClassId} {b : Nat} {H : Heap} {locs : List Loc} {cells slots : Nat} {LS : Array Slot},
      Cx M p s m args meth c D cA b → d ≤ R.frames → 64 * d ≤ R.locals → Wd D cA b s cells h H locs → LR b M.2.2.1 LS ls → (cells + (h1.length - h.length) ≤ R.cells ∧ slots + (hsz h1 - hsz h) ≤ R.slots) →
      ∃ a, va_Run p l e R s m args below meth c H locs cells slots (h1.length - h.length) (hsz h1 - hsz h) (F0 m pc LS (st.map (mp b))) (rest.map (mp b)) (QX D cA b rv h1 a) (fun q => b ≤ q)) : Rx M d pc ls st h r h' := by
  obtain ⟨k1, k2, k3⟩ := K
  have g1 := g0.len
  have k1l := k1.len
  refine ⟨g0.trans k1, Nat.le_trans g2 k2, fun p l e R s m args below meth c D cA b H locs cells slots LS C hR hw hl => ?_⟩
  obtain ⟨r1, r2, r3, r4⟩ := hR
  have hff : cells + (h1.length - h.length) ≤ R.cells ∧ slots + (hsz h1 - hsz h) ≤ R.slots := ⟨by omega, by omega⟩
  obtain ⟨a, hrun⟩ := f (l := l) (e := e) (below := below) C r1 r2 hw hl hff
  intro T hT X
  obtain ⟨v, st₀, t, T', L, h0, X', hL, e1, e2, ⟨hv, q1, q2, q3⟩, stp⟩ := hrun T hT X
  have hv' : v = rv.map (mp b) := by cases hv; rfl
  subst hv'
  obtain ⟨w1, w2, w3, w4, w5⟩ := hw
  have hw' : Wd D cA b s (cells + (h1.length - h.length)) h1 T'.heap (locs ++ L) := by
    refine ⟨by rw [e1]; exact q1, by rw [e1]; exact q2, ⟨?_, fun q z1 z2 => ?_, fun q hq => ?_⟩, w4, by rw [e1, q2]; omega⟩
    · rw [e1]
      have := q3.1
      rw [h0] at this
      exact Nat.le_trans w3.1 this
    · rw [e1, q3.2 q (by rw [h0]; exact Nat.lt_of_lt_of_le z1 w3.1) z2, h0]
      exact w3.2.1 q z1 z2
    · rcases List.mem_append.mp hq with z | z
      · exact w3.2.2 q z
      · exact hL q z
  have kk := k3 p l e R s m args below meth c D cA b T'.heap (locs ++ L) (cells + (h1.length - h.length)) (slots + (hsz h1 - hsz h)) LS C ⟨r1, r2, by omega, by omega⟩ hw' hl
  have g3 : cells + (h1.length - h.length) + (h'.length - h1.length) = cells + (h'.length - h.length) := by omega
  have g4 : slots + (hsz h1 - hsz h) + (hsz h' - hsz h1) = slots + (hsz h' - hsz h) := by omega
  rw [g3, g4] at kk
  have es : (rv.toList ++ rest).map (mp b) = (rv.map (mp b)).toList ++ rest.map (mp b) := by cases rv <;> simp
  rw [es] at kk
  obtain ⟨t2, a1, b1⟩ := kk T' rfl X'
  exact ⟨t2, stp t2 a1, b1⟩
def CL (own : String) (idx : Nat) (M' : Mi) (n : Nat) : Prop := Cond.code M'.1 M'.2.1 M'.2.2.1 M'.2.2.2 ∈ gtbl ∧ Cond.initialized M'.1.cls ∈ gtbl ∧ (M'.1.cls ≠ "java/lang/invoke/MethodHandle" ∧ M'.1.cls ≠ "java/lang/invoke/VarHandle" ∧ (parseMethodDescriptor M'.1.desc).map (fun d => d.parameters.length) = some n) ∧ Nat.ble M'.2.2.1 40 = true ∧ (Cond.methodLink own idx M'.1 ∈ gtbl ∨ ∃ host, Cond.methodLinkNest own idx M'.1 host ∈ lw_tbl)
def CLv (own : String) (idx : Nat) (M' : Mi) (n : Nat) : Prop := CL own idx M' n ∧ Cond.instanceMethod M'.1 ∈ gtbl ∧ Cond.selects M'.1.cls M'.1 M'.1 ∈ gtbl
def CLs (own : String) (idx : Nat) (M' : Mi) (n : Nat) : Prop := CL own idx M' n ∧ Cond.static M'.1 ∈ gtbl
def CLi (own : String) (idx : Nat) (M' : Mi) (n : Nat) : Prop := CL own idx M' n ∧ Cond.instanceMethod M'.1 ∈ gtbl ∧ M'.1.name = "<init>" ∧ M'.2.2.2 = none
theorem ws_good {M' : Mi} (h : Cond.code M'.1 M'.2.1 M'.2.2.1 M'.2.2.2 ∈ gtbl) : GoodIn gtbl (wsM M') := by
  intro w hw
  rcases List.mem_cons.mp hw with rfl | hw
  · exact gt_good _ h
  · exact gt_good _ hw
theorem PX_blind {D : va_G} {cA : Nat → ClassId} {b : Nat} {as : List Value} {h : Hp} : FrameBlind (PX D cA b as h) := by
  intro a U g mk q
  obtain ⟨q0, qP, qs, qK, qN⟩ := q
  exact ⟨q0, qP, qs, va_K.moved (u := U) (U := U.calling g mk a) (Vm.Alike.refl U.vm) qK, NW_vm qN rfl rfl⟩
theorem PX_pre {M : Mi} {p : Program} {s : State} {m : MethodId} {args : Array Value} {meth : Method} {c : Code} {D : va_G} {cA : Nat → ClassId} {b cells : Nat} {as : List Value} {h : Hp} {H : Heap} {locs : List Loc} (C : Cx M p s m args meth c D cA b) (w : Wd D cA b s cells h H locs) : ∀ U : State, U.heap = H → s.WarmedH U.vm → PX D cA b as h (as.map (mp b)).toArray U := by
  intro U hU hW
  obtain ⟨c1, c2, c3, c4, c5, c6, c7, c8, c9, c10⟩ := C
  exact ⟨rfl, by rw [hU]; exact w.1, by rw [hU]; exact w.2.1, va_K.moved hW.alike c9, NW_warm c10 hU w.2.2.1 hW⟩
theorem cat_sum (b : Nat) (l : List Value) : ((l.map (mp b)).map fun v => v.category) = l.map fun v => v.category := by
  rw [List.map_map]
  exact List.map_congr_left (fun v _ => mp_cat b v)
section CALLS
variable {M M' : Mi} {d pc : Nat} {ls st : List Value} {h h1 h' : Hp} {r : Option Value}
theorem Rx_runV {idx n a ci : Nat} {fs As rest : List Value} {rv : Option Value} (hd : decode M.2.1 pc = .ok (.invokevirtual idx, 3)) (hl : CLv M.1.cls idx M' n) (hci : vwCl[ci]?.map (fun q => q.1) = some M'.1.cls) (hrec : h[a]? = some (.inr (ci, fs))) (hM : Mx M' d (.ref a :: As) h rv h1) (hn : As.length = n) (hst : As.reverse ++ .ref a :: rest = st) (hroom : Nat.ble (rest.map fun v => v.category).sum 8 = true) (K : Rx M (d + 1) (pc + 3) ls (rv.toList ++ rest) h1 r h') : Rx M (d + 1) pc ls st h r h' := by
  subst hst
  obtain ⟨⟨l1, l2, l3, l4, l5⟩, l6, l7⟩ := hl
  refine Rx.call hM.1 hM.2.1 K (fun {p l e R s m args below meth c D cA b H locs cells slots LS} C r1 r2 w hl hf => ⟨((Value.ref a :: As).map (mp b)).toArray, ?_⟩)
  have C0 := C
  obtain ⟨c1, c2, c3, c4, c5, c6, c7, c8, c9, c10⟩ := C
  have l4' := Nat.le_of_ble_eq_true l4
  have hR : (rmx d h h1).frames + 1 ≤ R.frames ∧ 8 + (M'.2.2.1 + 11) + (rmx d h h1).locals ≤ R.locals := ⟨r1, by show 8 + (M'.2.2.1 + 11) + 64 * d ≤ R.locals; omega⟩
  obtain ⟨q, hq, hq2⟩ : ∃ q, vwCl[ci]? = some q ∧ q.1 = M'.1.cls := by
    cases hx : vwCl[ci]? with
    | none => rw [hx] at hci; cases hci
    | some q => rw [hx] at hci; exact ⟨q, rfl, Option.some.inj hci⟩
  have hrecv := va_recv (ci := ci) (q0 := a) c9 w.1 hq (wz_at (cA := cA) (b := b) hrec)
  rw [hq2] at hrecv
  have hstack : (As.reverse ++ Value.ref a :: rest).map (mp b) = (As.map (mp b)).reverse ++ .ref (b + a) :: rest.map (mp b) := by simp [mp]
  have hcat : 2 * (F0 m pc LS ((As.reverse ++ Value.ref a :: rest).map (mp b))).monitorRoom + ((rest.map (mp b)).map fun v => v.category).sum ≤ 8 := lv_room (by rw [cat_sum]; exact Nat.le_of_ble_eq_true hroom)
  have hpre : PreV s H M'.1.cls (b + a) (PX D cA b (Value.ref a :: As) h) (As.map (mp b)) := ⟨PX_blind, hrecv, PX_pre C0 w⟩
  rcases l5 with l5 | ⟨host, l5⟩
  · exact va_runV (own := M.1.cls) (C := M'.1.cls) (Ts := gtbl) (nL := M.2.2.1) ⟨c1, c2, c3, c7, c8⟩ (hM.2.2 l D cA b) ⟨callB_of n c8 (ws_good l1) rfl rfl rfl (c8 _ l2) (c8 _ l5) l3 hR, c8 _ l6, c8 _ l7⟩ hpre rfl (by rw [List.length_map]; exact hn) hl.1 hstack hcat hd hf
  · exact va_runVN (own := M.1.cls) (C := M'.1.cls) (Ts := gtbl) (nL := M.2.2.1) ⟨c1, c2, c3, c7, c8⟩ (hM.2.2 l D cA b) ⟨va_cnB n c8 (ws_good l1) rfl rfl rfl (c10.1 _ l5 rfl) (c8 _ l2) l3 hR, c8 _ l6, c8 _ l7⟩ hpre rfl (by rw [List.length_map]; exact hn) hl.1 hstack hcat hd hf
theorem Rx_runS {idx n : Nat} {As rest : List Value} {rv : Option Value} (hd : decode M.2.1 pc = .ok (.invokestatic idx, 3)) (hl : CLs M.1.cls idx M' n) (hM : Mx M' d As h rv h1) (hn : As.length = n) (hst : As.reverse ++ rest = st) (hroom : Nat.ble (rest.map fun v => v.category).sum 8 = true) (K : Rx M (d + 1) (pc + 3) ls (rv.toList ++ rest) h1 r h') : Rx M (d + 1) pc ls st h r h' := by
  subst hst
  obtain ⟨⟨l1, l2, l3, l4, l5⟩, l6⟩ := hl
  refine Rx.call hM.1 hM.2.1 K (fun {p l e R s m args below meth c D cA b H locs cells slots LS} C r1 r2 w hl hf => ⟨(As.map (mp b)).toArray, ?_⟩)
  have C0 := C
  obtain ⟨c1, c2, c3, c4, c5, c6, c7, c8, c9, c10⟩ := C
  have l4' := Nat.le_of_ble_eq_true l4
  have hR : (rmx d h h1).frames + 1 ≤ R.frames ∧ 8 + (M'.2.2.1 + 11) + (rmx d h h1).locals ≤ R.locals := ⟨r1, by show 8 + (M'.2.2.1 + 11) + 64 * d ≤ R.locals; omega⟩
  have hstack : (As.reverse ++ rest).map (mp b) = (As.map (mp b)).reverse ++ rest.map (mp b) := by simp
  have hcat : 2 * (F0 m pc LS ((As.reverse ++ rest).map (mp b))).monitorRoom + ((rest.map (mp b)).map fun v => v.category).sum ≤ 8 := lv_room (by rw [cat_sum]; exact Nat.le_of_ble_eq_true hroom)
  have hpre : PreS s H (PX D cA b As h) (As.map (mp b)) := ⟨PX_blind, PX_pre C0 w⟩
  rcases l5 with l5 | ⟨host, l5⟩
  · exact va_runS (own := M.1.cls) (Ts := gtbl) (nL := M.2.2.1) ⟨c1, c2, c3, c7, c8⟩ (hM.2.2 l D cA b) ⟨callB_of n c8 (ws_good l1) rfl rfl rfl (c8 _ l2) (c8 _ l5) l3 hR, c8 _ l6⟩ hpre rfl (by rw [List.length_map]; exact hn) hl.1 hstack hcat hd hf
  · exact va_runSN (own := M.1.cls) (Ts := gtbl) (nL := M.2.2.1) ⟨c1, c2, c3, c7, c8⟩ (hM.2.2 l D cA b) ⟨va_cnB n c8 (ws_good l1) rfl rfl rfl (c10.1 _ l5 rfl) (c8 _ l2) l3 hR, c8 _ l6, trivial⟩ hpre rfl (by rw [List.length_map]; exact hn) hl.1 hstack hcat hd hf
theorem Rx_runI {idx n a : Nat} {As rest : List Value} {rv : Option Value} (hd : decode M.2.1 pc = .ok (.invokespecial idx, 3)) (hl : CLi M.1.cls idx M' n) (hM : Mx M' d (.ref a :: As) h rv h1) (hn : As.length = n) (hst : As.reverse ++ .ref a :: rest = st) (hroom : Nat.ble (rest.map fun v => v.category).sum 8 = true) (K : Rx M (d + 1) (pc + 3) ls (rv.toList ++ rest) h1 r h') : Rx M (d + 1) pc ls st h r h' := by
  subst hst
  obtain ⟨⟨l1, l2, l3, l4, l5⟩, l6, l7, l8⟩ := hl
  refine Rx.call hM.1 hM.2.1 K (fun {p l e R s m args below meth c D cA b H locs cells slots LS} C r1 r2 w hl hf => ⟨((Value.ref a :: As).map (mp b)).toArray, ?_⟩)
  have C0 := C
  obtain ⟨c1, c2, c3, c4, c5, c6, c7, c8, c9, c10⟩ := C
  have l4' := Nat.le_of_ble_eq_true l4
  have hR : (rmx d h h1).frames + 1 ≤ R.frames ∧ 8 + (M'.2.2.1 + 11) + (rmx d h h1).locals ≤ R.locals := ⟨r1, by show 8 + (M'.2.2.1 + 11) + 64 * d ≤ R.locals; omega⟩
  have hstack : (As.reverse ++ Value.ref a :: rest).map (mp b) = (As.map (mp b)).reverse ++ .ref (b + a) :: rest.map (mp b) := by simp [mp]
  have hcat : 2 * (F0 m pc LS ((As.reverse ++ Value.ref a :: rest).map (mp b))).monitorRoom + ((rest.map (mp b)).map fun v => v.category).sum ≤ 8 := lv_room (by rw [cat_sum]; exact Nat.le_of_ble_eq_true hroom)
  have hpre : PreS s H (PX D cA b (Value.ref a :: As) h) (.ref (b + a) :: As.map (mp b)) := ⟨PX_blind, PX_pre C0 w⟩
  have hw : wsM M' = Cond.code M'.1 M'.2.1 M'.2.2.1 none :: gtbl := by rw [← l8]; rfl
  rcases l5 with l5 | ⟨host, l5⟩
  · exact va_runI (own := M.1.cls) (Ts := gtbl) (nL := M.2.2.1) ⟨c1, c2, c3, c7, c8⟩ (hM.2.2 l D cA b) ⟨callB_of n c8 (ws_good l1) hw rfl rfl (c8 _ l2) (c8 _ l5) l3 hR, l7, c8 _ l6⟩ hpre rfl (by rw [List.length_map]; exact hn) hl.1 hstack hcat hd hf
  · exact va_runIN (own := M.1.cls) (Ts := gtbl) (nL := M.2.2.1) ⟨c1, c2, c3, c7, c8⟩ (hM.2.2 l D cA b) ⟨va_cnB n c8 (ws_good l1) hw rfl rfl (c10.1 _ l5 rfl) (c8 _ l2) l3 hR, l7, c8 _ l6⟩ hpre rfl (by rw [List.length_map]; exact hn) hl.1 hstack hcat hd hf
theorem Rx_callV {idx n a ci : Nat} {fs rest : List Value} {v : Value} (As : List Value) (hd : decode M.2.1 pc = .ok (.invokevirtual idx, 3)) (hl : CLv M.1.cls idx M' n) (hci : vwCl[ci]?.map (fun q => q.1) = some M'.1.cls) (hrec : h[a]? = some (.inr (ci, fs))) (hM : Mx M' d (.ref a :: As) h (some v) h1) (hn : As.length = n) (hst : As.reverse ++ .ref a :: rest = st) (hroom : Nat.ble (rest.map fun v => v.category).sum 8 = true) (K : Rx M (d + 1) (pc + 3) ls (v :: rest) h1 r h') : Rx M (d + 1) pc ls st h r h' := Rx_runV hd hl hci hrec hM hn hst hroom K
theorem Rx_callVv {idx n a ci : Nat} {fs rest : List Value} (As : List Value) (hd : decode M.2.1 pc = .ok (.invokevirtual idx, 3)) (hl : CLv M.1.cls idx M' n) (hci : vwCl[ci]?.map (fun q => q.1) = some M'.1.cls) (hrec : h[a]? = some (.inr (ci, fs))) (hM : Mx M' d (.ref a :: As) h none h1) (hn : As.length = n) (hst : As.reverse ++ .ref a :: rest = st) (hroom : Nat.ble (rest.map fun v => v.category).sum 8 = true) (K : Rx M (d + 1) (pc + 3) ls rest h1 r h') : Rx M (d + 1) pc ls st h r h' := Rx_runV hd hl hci hrec hM hn hst hroom K
theorem Rx_callS {idx n : Nat} {rest : List Value} {v : Value} (As : List Value) (hd : decode M.2.1 pc = .ok (.invokestatic idx, 3)) (hl : CLs M.1.cls idx M' n) (hM : Mx M' d As h (some v) h1) (hn : As.length = n) (hst : As.reverse ++ rest = st) (hroom : Nat.ble (rest.map fun v => v.category).sum 8 = true) (K : Rx M (d + 1) (pc + 3) ls (v :: rest) h1 r h') : Rx M (d + 1) pc ls st h r h' := Rx_runS hd hl hM hn hst hroom K
theorem Rx_callSv {idx n : Nat} {rest : List Value} (As : List Value) (hd : decode M.2.1 pc = .ok (.invokestatic idx, 3)) (hl : CLs M.1.cls idx M' n) (hM : Mx M' d As h none h1) (hn : As.length = n) (hst : As.reverse ++ rest = st) (hroom : Nat.ble (rest.map fun v => v.category).sum 8 = true) (K : Rx M (d + 1) (pc + 3) ls rest h1 r h') : Rx M (d + 1) pc ls st h r h' := Rx_runS hd hl hM hn hst hroom K
theorem Rx_callI {idx n a : Nat} {rest : List Value} (As : List Value) (hd : decode M.2.1 pc = .ok (.invokespecial idx, 3)) (hl : CLi M.1.cls idx M' n) (hM : Mx M' d (.ref a :: As) h none h1) (hn : As.length = n) (hst : As.reverse ++ .ref a :: rest = st) (hroom : Nat.ble (rest.map fun v => v.category).sum 8 = true) (K : Rx M (d + 1) (pc + 3) ls rest h1 r h') : Rx M (d + 1) pc ls st h r h' := Rx_runI hd hl hM hn hst hroom K
theorem Rx_objInit {idx a : Nat} {rest : List Value} (hd : decode M.2.1 pc = .ok (.invokespecial idx, 3)) (hl : Cond.methodLink M.1.cls idx objectInit ∈ gtbl) (h2 : Cond.instanceMethod objectInit ∈ gtbl) (h3 : Cond.code objectInit ⟨#[0xb1]⟩ 1 none ∈ gtbl) (hroom : Nat.ble (rest.map fun v => v.category).sum 8 = true) (K : Rx M (d + 1) (pc + 3) ls rest h r h') : Rx M (d + 1) pc ls (.ref a :: rest) h r h' :=
  K.step (fun {_ _ _ _ _ m _ _ _ _ _ _ b _ _ _ _ LS _} C hR _ hlr k => by
    obtain ⟨c1, c2, c3, c4, c5, c6, c7, c8, c9, c10⟩ := C
    have hcat : 2 * (F0 m pc LS ((Value.ref a :: rest).map (mp b))).monitorRoom + ((rest.map (mp b)).map fun v => v.category).sum ≤ 8 := lv_room (by rw [cat_sum]; exact Nat.le_of_ble_eq_true hroom)
    have h1 := hR.1
    have h2' := hR.2.1
    exact W.objInit c1 c2 c7 (c8 _ hl) (c8 _ h2) (c8 _ h3) rfl (hlr.1.trans c3.symm) rfl hd (by omega) (by omega) k)
theorem Rx_mmax {idx : Nat} {x y : Int32} {rest : List Value} (hd : decode M.2.1 pc = .ok (.invokestatic idx, 3)) (hl : Cond.methodLink M.1.cls idx Lib.Math.max.name ∈ gtbl) (h1 : Cond.static Lib.Math.max.name ∈ gtbl) (h2 : Cond.initialized "java/lang/Math" ∈ gtbl) (h3 : Cond.code Lib.Math.max.name Lib.Math.max.code 2 (some .int) ∈ gtbl) (hroom : Nat.ble (rest.map fun v => v.category).sum 8 = true) (K : Rx M (d + 1) (pc + 3) ls (.int (if x < y then y else x) :: rest) h r h') : Rx M (d + 1) pc ls (.int y :: .int x :: rest) h r h' :=
  K.step (fun {_ _ _ _ _ m _ _ _ _ _ _ b _ _ _ _ LS _} C hR _ hlr k => by
    obtain ⟨c1, c2, c3, c4, c5, c6, c7, c8, c9, c10⟩ := C
    have g0 := Nat.le_of_ble_eq_true hroom
    obtain ⟨r1, r2, r3, r4⟩ := hR
    exact va_mmax c1 c2 (c3.trans hlr.1.symm) c7 (c8 _ hl) (c8 _ h1) (c8 _ h2) (c8 _ h3) (by omega) (by rw [cat_sum]; omega) (by omega) (by omega) hd k)
theorem Rx_mmin {idx : Nat} {x y : Int32} {rest : List Value} (hd : decode M.2.1 pc = .ok (.invokestatic idx, 3)) (hl : Cond.methodLink M.1.cls idx Lib.Math.min.name ∈ gtbl) (h1 : Cond.static Lib.Math.min.name ∈ gtbl) (h2 : Cond.initialized "java/lang/Math" ∈ gtbl) (h3 : Cond.code Lib.Math.min.name Lib.Math.min.code 2 (some .int) ∈ gtbl) (hroom : Nat.ble (rest.map fun v => v.category).sum 8 = true) (K : Rx M (d + 1) (pc + 3) ls (.int (if y < x then y else x) :: rest) h r h') : Rx M (d + 1) pc ls (.int y :: .int x :: rest) h r h' :=
  K.step (fun {_ _ _ _ _ m _ _ _ _ _ _ b _ _ _ _ LS _} C hR _ hlr k => by
    obtain ⟨c1, c2, c3, c4, c5, c6, c7, c8, c9, c10⟩ := C
    have g0 := Nat.le_of_ble_eq_true hroom
    obtain ⟨r1, r2, r3, r4⟩ := hR
    exact va_mmin c1 c2 (c3.trans hlr.1.symm) c7 (c8 _ hl) (c8 _ h1) (c8 _ h2) (c8 _ h3) (by omega) (by rw [cat_sum]; omega) (by omega) (by omega) hd k)
/-- System.arraycopy between two rows of ints -/
theorem Rx_acopy {idx a0 a1 n0 n1 : Nat} {f g : Nat → Int32} {x y z : Int32} {rest : List Value} (sp dp n : Nat) (hd : decode M.2.1 pc = .ok (.invokestatic idx, 3)) (hl : Cond.methodLink M.1.cls idx arraycopyName ∈ gtbl) (h1 : Cond.native arraycopyName ∈ gtbl) (h2 : Cond.static arraycopyName ∈ gtbl) (h3 : Cond.initialized "java/lang/System" ∈ gtbl)
    (ha0 : h[a0]? = some (aI n0 f)) (ha1 : h[a1]? = some (aI n1 g)) (e0 : n0 < 2 ^ 31) (e1 : n1 < 2 ^ 31) (hx : x = nI sp) (hy : y = nI dp) (hz : z = nI n) (g0 : sp + n ≤ n0) (g1 : dp + n ≤ n1) (hroom : Nat.ble (rest.map fun v => v.category).sum 8 = true) (K : Rx M (d + 1) (pc + 3) ls rest (h.set a1 (aI n1 (va_cpy f g sp dp n))) r h') : Rx M (d + 1) pc ls (.int z :: .int y :: .ref a1 :: .int x :: .ref a0 :: rest) h r h' := by
  subst hx; subst hy; subst hz
  refine Rx.stepH (e1 := aI n1 (va_cpy f g sp dp n)) ha1 rfl K (fun {_ _ _ _ _ _ _ _ _ _ D cA b _ _ _ _ _ _} C hR hlr hP hD hS k0 => ?_)
  obtain ⟨c1, c2, c3, c4, c5, c6, c7, c8, c9, c10⟩ := C
  obtain ⟨r1, r2, r3, r4⟩ := hR
  have gr := Nat.le_of_ble_eq_true hroom
  have q0 : (wz cA b h)[a0]? = some (b + a0, .inl (cA 0, n0, .inl f)) := wz_at ha0
  have q1 : (wz cA b h)[a1]? = some (b + a1, .inl (cA 0, n1, .inl g)) := wz_at ha1
  have cs : (nI sp).toNatClampNeg = sp := nI_clamp (by omega)
  have cd : (nI dp).toNatClampNeg = dp := nI_clamp (by omega)
  have cn : (nI n).toNatClampNeg = n := nI_clamp (by omega)
  refine va_copyi (ty := .int) c1 c2 (c3.trans hlr.1.symm) c7 (c8 _ hl) (c8 _ h1) (c8 _ h2) (c8 _ h3) c9 hP hD hS a0 a1 0 0 q0 q1 rfl rfl rfl (nI_pos (by omega)) (nI_pos (by omega)) (nI_pos (by omega)) (by rw [cs, cn]; exact g0) (by rw [cd, cn]; exact g1) (fun _ _ => rfl) (by omega) (by rw [cat_sum, show nativeFrameWords "java/lang/System" "arraycopy" 5 = 7 by decide +kernel]; omega) hd ?_
  rw [cs, cd, cn]
  exact k0
end CALLS
