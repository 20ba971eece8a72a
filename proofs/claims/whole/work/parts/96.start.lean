/-! the law from its entry -/
theorem nlL_7 : NL R_law 7 8 [.null, .null, .null, .null, .null, .null, .null, .null, .null, .int 0, .int 0] := ⟨_, tyX8, rfl, tyX8_ok, by decide +kernel, rfl, fun _ => rfl, (gt_at 96 (by decide +kernel) (by decide +kernel)), (gt_at 97 (by decide +kernel) (by decide +kernel)), (gt_at 79 (by decide +kernel) (by decide +kernel))⟩
theorem nlL_10 : NL R_law 10 9 [.null, .null, .int 0, .null, .null, .int 0, .int 0, .null, .null, .null, .null, .null, .null, .null, .int 0, .int 0, .int 0, .int 0, .int 0, .null, .null, .null, .null, .null, .null, .int 0, .int 0, .int 0, .null, .int 0] := ⟨_, tyX9, rfl, tyX9_ok, by decide +kernel, rfl, fun _ => rfl, (gt_at 764 (by decide +kernel) (by decide +kernel)), (gt_at 765 (by decide +kernel) (by decide +kernel)), (gt_at 89 (by decide +kernel) (by decide +kernel))⟩
theorem li_HA : LI HA := by
  refine ⟨0, 0, z32, o32, 0, sv0', z32, 0, z32, wS, z32, HA_CI, HA_RI, ⟨rfl, fun i hi => absurd hi (Nat.not_lt_zero _), AR_0, fun c h1 h2 => ?_⟩, fun i hi => absurd hi (Nat.not_lt_zero _)⟩
  unfold wS
  rw [fb_put_in (by omega) (by omega)]
  show (1 : Int32) = fillf z32 22 1 c
  unfold fillf
  rw [if_pos (by omega)]
section LR
variable {p : Program} {l : Launch} {e : Env} {s : State} {m : MethodId} {below : List Frame} {meth : Method} {c : Code} {D : va_G} {cA : Nat → ClassId} {scr L : Nat} {xs : Nat → Int32} {h : Hp}
theorem LW_dup {lv : List (Nat × Value)} {pc a : Nat} {st : List Value} (C : LC p s m meth c D cA scr L xs) (hd : decode code pc = .ok (.dup, 1)) (K : LW p l e s m below meth c D cA scr lv (pc + 1) (.ref a :: .ref a :: st) h) : LW p l e s m below meth c D cA scr lv pc (.ref a :: st) h :=
  fun H locs LS hw hl => lv_dup C.1 C.2.1 hd rfl (K H locs LS hw hl)
theorem LW_astore {lv lv' : List (Nat × Value)} {pc a i : Nat} {k : Fin 4} {st : List Value} (C : LC p s m meth c D cA scr L xs) (hd : decode code pc = .ok (.astore_n k, 1)) (hk : (k : Nat) = i) (hi : i < 4) (hv : (i, Value.ref (s.heap.size + a)) :: lv.filter (fun q => !(q.1 == i) && !(q.1 + 1 == i && q.2.category == 2)) = lv') (K : LW p l e s m below meth c D cA scr lv' (pc + 1) st h) : LW p l e s m below meth c D cA scr lv pc (.ref a :: st) h :=
  fun H locs LS hw hl => lv_astore_n C.1 C.2.1 hd hk hl hi hv (fun ls hl => K H locs ls hw hl)
theorem law_start (C : LC p s m meth c D cA scr L xs) (hL : L ≤ 2560) : LW p l e s m below meth c D cA scr [(0, .ref scr)] 0 [] [] := by
  have capC : HC.length ≤ 600000 ∧ hsz HC ≤ 7302250 := by decide +kernel
  have capA : HA.length ≤ 600000 ∧ hsz HA ≤ 7302250 := li_cap li_HA (Gz.rf _)
  refine LW_new C dL_0 nlL_7 (by decide) ?_
  refine LW_dup C dL_3 ?_
  refine LW_runI (As := []) (rest := [.ref 0]) C dL_4 clL_9 (ci_class 61) rfl rfl rfl capC ?_
  refine LW_astore (a := 0) (lv' := [(1, .ref (s.heap.size + 0)), (0, .ref scr)]) C dL_7 rfl (by decide) rfl ?_
  refine LW_new C dL_8 nlL_10 ⟨by decide +kernel, by decide +kernel⟩ ?_
  rw [HC_len]
  refine LW_dup C dL_11 ?_
  refine LW_runI (As := []) (rest := [.ref 43]) C dL_12 clL_12 (ci_ref 62 HC_len) rfl rfl rfl capA ?_
  refine LW_astore (a := 43) (lv' := [(2, .ref (s.heap.size + 43)), (1, .ref (s.heap.size + 0)), (0, .ref scr)]) C dL_15 rfl (by decide) rfl ?_
  intro H locs LS hw hl
  refine lv_iconst (v := 0) C.1 C.2.1 dL_16 (by decide) ?_
  refine lv_istore_n (lv' := lvF s scr (nI 0)) C.1 C.2.1 dL_17 rfl hl (by decide) rfl (fun ls hl => ?_)
  exact law_loop C hL 600 0 HA (by omega) (by decide) li_HA (Gz.rf _) H locs ls hw hl
end LR
theorem inst_in : ∀ q ∈ vwCl, Cond.instantiable q.1 q.2.2 ∈ gtbl := List.forall_mem_cons.mpr ⟨(gt_at 166 (by decide +kernel) (by decide +kernel)), List.forall_mem_cons.mpr ⟨(gt_at 265 (by decide +kernel) (by decide +kernel)), List.forall_mem_cons.mpr ⟨(gt_at 151 (by decide +kernel) (by decide +kernel)), List.forall_mem_cons.mpr ⟨(gt_at 189 (by decide +kernel) (by decide +kernel)), List.forall_mem_cons.mpr ⟨(gt_at 134 (by decide +kernel) (by decide +kernel)), List.forall_mem_cons.mpr ⟨(gt_at 238 (by decide +kernel) (by decide +kernel)), List.forall_mem_cons.mpr ⟨(gt_at 105 (by decide +kernel) (by decide +kernel)), List.forall_mem_cons.mpr ⟨(gt_at 252 (by decide +kernel) (by decide +kernel)), List.forall_mem_cons.mpr ⟨(gt_at 97 (by decide +kernel) (by decide +kernel)), List.forall_mem_cons.mpr ⟨(gt_at 765 (by decide +kernel) (by decide +kernel)), fun _ h => absurd h List.not_mem_nil⟩⟩⟩⟩⟩⟩⟩⟩⟩⟩
theorem lc_mk {p : Program} {s : State} {m : MethodId} {meth : Method} {c : Code} {b L : Nat} {xs : Nat → Int32} (C0 : lw_At p s m meth c b L xs) : ∃ D cA, LC p s m meth c D cA b L xs := by
  obtain ⟨hx, hb, hr, hml, hown, hts, hX, hbl, hlocks, hgv⟩ := C0
  have hg : ∀ w ∈ gtbl, w.before #[Value.ref b] s = true := fun w hw => hts w (List.mem_filter.mp hw).1
  have hk : ∀ k : Nat, ∃ z : ClassId × (Nat → Nat), ∀ q : vw_C, vwCl[k]? = some q → u_Kn s q.1 q.2.1 q.2.2 z.1 z.2 := fun k => by
    cases hh : vwCl[k]? with
    | none => exact ⟨(0, fun _ => 0), fun q hq => by cases hq⟩
    | some q0 =>
      obtain ⟨cC, iS, hu⟩ := u_known (ws := gtbl) (C := q0.1) (T := q0.2.1) (N := q0.2.2) hg (cl_in hh) (hg _ (inst_in q0 (List.mem_of_getElem? hh)))
      exact ⟨(cC, iS), fun q hq => by cases hq; exact hu⟩
  obtain ⟨f, hf⟩ := Classical.axiomOfChoice hk
  obtain ⟨a0, k0, co0, i1, i2, i3⟩ := Cond.arrayClass_spec (hg (.arrayClass .int) (gt_at 132 (by decide +kernel) (by decide +kernel)))
  obtain ⟨a1, k1, co1, j1, j2, j3⟩ := Cond.arrayClass_spec (hg (.arrayClass .long) (gt_at 250 (by decide +kernel) (by decide +kernel)))
  have ho : (Cond.arrayOver (.object RX6)).before #[Value.ref b] s = true := hts _ (List.mem_of_getElem? (i := 140) (by decide +kernel))
  obtain ⟨co2, a2, k2, o1, o2, o3, o4, o5⟩ := Cond.arrayOver_spec ho
  refine ⟨(fun k => (f k).1, fun k => (f k).2), fun k => if k = 0 then a0 else if k = 1 then a1 else a2, hx, hb, hml, hr, hlocks, hown, hg, ⟨fun k q hq => hf k q hq, fun k q hq => ?_⟩, ⟨fun w hw hn => ?_, va_AO.of ho, ?_⟩, hX, hbl⟩
  · match k, hq with
    | 0, hq => cases hq; exact ⟨fun n z => ⟨fun k h => (by cases h), k0, i2, co0, i3⟩, i1⟩
    | 1, hq => cases hq; exact ⟨fun n z => ⟨fun k h => (by cases h), k1, j2, co1, j3⟩, j1⟩
    | 2, hq => cases hq; exact ⟨fun n z => ⟨fun k h => (by cases h), k2, o3, co2, o4⟩, k2, co2, o3, o4, o1, o5⟩
    | k + 3, hq => simp at hq
  · refine va_Nw.of ?_ (hts w hw)
    cases w <;> first | rfl | cases hn
  · have hq := flat_of_before _ hgv
    have hA : ∀ a : Nat, a < s.heap.size → ¬ s.heap.size ≤ a := fun a ha => Nat.not_le.mpr ha
    obtain ⟨t, e1, e2⟩ := va_Tof (tm := .static RX5 "INNER_WORDS" "[J") (ty := .long) (N := 6) (f := fun j => .long (inn j)) (A := fun q => s.heap.size ≤ q) (by decide) (hq _ (by decide +kernel)) (va_eqt (hq _ (by decide +kernel))) (fun j hj => by
      have hj' : j = 0 ∨ j = 1 ∨ j = 2 ∨ j = 3 ∨ j = 4 ∨ j = 5 := by omega
      rcases hj' with rfl | rfl | rfl | rfl | rfl | rfl
      · exact va_eqtl (z := -6148914691236517206) (hq _ (by decide +kernel))
      · exact va_eqtl (z := -3689348814741910324) (hq _ (by decide +kernel))
      · exact va_eqtl (z := -1085102592571150096) (hq _ (by decide +kernel))
      · exact va_eqtl (z := -71777214294589696) (hq _ (by decide +kernel))
      · exact va_eqtl (z := -281470681808896) (hq _ (by decide +kernel))
      · exact va_eqtl (z := -4294967296) (hq _ (by decide +kernel))) hA
    exact ⟨t, va_Zref (hts _ (List.mem_of_getElem? (i := 591) (by decide +kernel))) (hts _ (List.mem_of_getElem? (i := 86) (by decide +kernel))) e1 hA, e2⟩
theorem whole_start {p : Program} {e : Env} {s : State} {m : MethodId} {below : List Frame} {meth : Method} {c : Code} (l : Launch) (hflags : l.flags = flags0) {b L : Nat} {xs : Nat → Int32} (hL : L ≤ 2560) (C0 : lw_At p s m meth c b L xs) : W p l e room_1 s m #[Value.ref b] below meth c s.heap [] 0 0 (lw_Z below #[Value.ref b] s) (entryFrame m ([Value.ref b] : List Value).toArray 4) := by
  obtain ⟨D, cA, C⟩ := lc_mk C0
  have hl := lv_entry ([.ref b]) (n := 4) (Nat.le_of_ble_eq_true rfl)
  rw [lg_entry_eq]
  generalize (lg_sl ([.ref b]) ++ List.replicate (4 - (lg_sl ([.ref b])).length) Slot.unset).toArray = ls at hl ⊢
  have hl : lv_has ls 4 [(0, .ref b)] := hl
  exact law_start C hL s.heap [] ls ⟨fun k q h => by simp [wz] at h, rfl, va_S.rf, Nat.le_refl _, rfl⟩ hl
