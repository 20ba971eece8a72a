/-! rules of the heap -/
theorem lat_eq (fs : List Value) (k : Nat) : lat fs k = fs[k]? := by
  induction fs generalizing k with
  | nil => simp [lat]
  | cons a l ih => cases k <;> simp [lat, ih]
theorem lse_eq (fs : List Value) (k : Nat) (v : Value) : lse fs k v = fs.set k v := by
  induction fs generalizing k with
  | nil => simp [lse]
  | cons a l ih => cases k <;> simp [lse, ih]
theorem lse_len (fs : List Value) (k : Nat) (v : Value) : (lse fs k v).length = fs.length := by rw [lse_eq, List.length_set]
theorem cl_in0 : ∀ q ∈ vwCl, ∀ w ∈ u_ws q.1 q.2.1 q.2.2, w ∈ gtbl := by
  refine List.forall_mem_cons.mpr ⟨by decide +kernel, List.forall_mem_cons.mpr ⟨by decide +kernel, List.forall_mem_cons.mpr ⟨by decide +kernel, List.forall_mem_cons.mpr ⟨by decide +kernel, List.forall_mem_cons.mpr ⟨by decide +kernel, List.forall_mem_cons.mpr ⟨by decide +kernel, List.forall_mem_cons.mpr ⟨by decide +kernel, List.forall_mem_cons.mpr ⟨by decide +kernel, List.forall_mem_cons.mpr ⟨by decide +kernel, List.forall_mem_cons.mpr ⟨by decide +kernel, fun _ h => absurd h List.not_mem_nil⟩⟩⟩⟩⟩⟩⟩⟩⟩⟩
theorem cl_in {ci : Nat} {q : vw_C} (h : vwCl[ci]? = some q) : ∀ w ∈ u_ws q.1 q.2.1 q.2.2, w ∈ gtbl := cl_in0 q (List.mem_of_getElem? h)
theorem cl_ty0 : ∀ q ∈ vwCl, (∃ ty0 : Nat → FieldType, ∀ k, k < q.2.2 → parseFieldDescriptor (q.2.1 k).2.2.1 = some (ty0 k)) ∧ (∀ a, a < q.2.2 → ∀ b, b < q.2.2 → a ≠ b → (q.2.1 a).2.1 ≠ (q.2.1 b).2.1) := by
  refine List.forall_mem_cons.mpr ⟨⟨⟨tyX0, tyX0_ok⟩, nmX0⟩, List.forall_mem_cons.mpr ⟨⟨⟨tyX1, tyX1_ok⟩, nmX1⟩, List.forall_mem_cons.mpr ⟨⟨⟨tyX2, tyX2_ok⟩, nmX2⟩, List.forall_mem_cons.mpr ⟨⟨⟨tyX3, tyX3_ok⟩, nmX3⟩, List.forall_mem_cons.mpr ⟨⟨⟨tyX4, tyX4_ok⟩, nmX4⟩, List.forall_mem_cons.mpr ⟨⟨⟨tyX5, tyX5_ok⟩, nmX5⟩, List.forall_mem_cons.mpr ⟨⟨⟨tyX6, tyX6_ok⟩, nmX6⟩, List.forall_mem_cons.mpr ⟨⟨⟨tyX7, tyX7_ok⟩, nmX7⟩, List.forall_mem_cons.mpr ⟨⟨⟨tyX8, tyX8_ok⟩, nmX8⟩, List.forall_mem_cons.mpr ⟨⟨⟨tyX9, tyX9_ok⟩, nmX9⟩, fun _ h => absurd h List.not_mem_nil⟩⟩⟩⟩⟩⟩⟩⟩⟩⟩
theorem cl_ty {ci : Nat} {q : vw_C} (h : vwCl[ci]? = some q) : (∃ ty0 : Nat → FieldType, ∀ k, k < q.2.2 → parseFieldDescriptor (q.2.1 k).2.2.1 = some (ty0 k)) ∧ (∀ a, a < q.2.2 → ∀ b, b < q.2.2 → a ≠ b → (q.2.1 a).2.1 ≠ (q.2.1 b).2.1) := cl_ty0 q (List.mem_of_getElem? h)
def FL (own : String) (idx ci k : Nat) : Prop := ∃ q : vw_C, vwCl[ci]? = some q ∧ k < q.2.2 ∧ (Cond.fieldLink own idx (q.2.1 k).1 (q.2.1 k).2.1 (q.2.1 k).2.2.1 ∈ gtbl ∨ ∃ host, Cond.fieldLinkNest own idx (q.2.1 k).1 (q.2.1 k).2.1 (q.2.1 k).2.2.1 host ∈ lw_tbl)
def FP (own : String) (idx ci k : Nat) (ty : FieldType) : Prop := ∃ q : vw_C, vwCl[ci]? = some q ∧ k < q.2.2 ∧ (q.2.1 k).2.2.2 = false ∧ parseFieldDescriptor (q.2.1 k).2.2.1 = some ty ∧ (Cond.fieldLink own idx (q.2.1 k).1 (q.2.1 k).2.1 (q.2.1 k).2.2.1 ∈ gtbl ∨ ∃ host, Cond.fieldLinkNest own idx (q.2.1 k).1 (q.2.1 k).2.1 (q.2.1 k).2.2.1 host ∈ lw_tbl)
def FF (own : String) (idx ci k : Nat) (ty : FieldType) : Prop := ∃ q : vw_C, vwCl[ci]? = some q ∧ k < q.2.2 ∧ (q.2.1 k).2.2.2 = true ∧ (q.2.1 k).1 = own ∧ parseFieldDescriptor (q.2.1 k).2.2.1 = some ty ∧ Cond.fieldLink own idx (q.2.1 k).1 (q.2.1 k).2.1 (q.2.1 k).2.2.1 ∈ gtbl
def okv (ty : FieldType) (v : Value) : Prop := ∀ b, narrow ty (mp b v) = mp b v ∧ fits ty (mp b v) = true
theorem okv_i (x : Int32) : okv .int (.int x) := fun _ => ⟨rfl, rfl⟩
theorem okv_z (x : Int32) (h1 : narrow .boolean (.int x) = .int x) (h2 : fits .boolean (.int x) = true) : okv .boolean (.int x) := fun _ => ⟨h1, h2⟩
theorem okv_0 : okv .boolean (.int 0) := okv_z 0 (by decide +kernel) (by decide +kernel)
theorem okv_1 : okv .boolean (.int 1) := okv_z 1 (by decide +kernel) (by decide +kernel)
theorem okv_a (t : FieldType) (a : Nat) : okv (.array t) (.ref a) := fun _ => ⟨rfl, rfl⟩
theorem okv_o (C : String) (a : Nat) : okv (.object C) (.ref a) := fun _ => ⟨rfl, rfl⟩
section RULES
variable {M : Mi} {d pc : Nat} {ls st : List Value} {h : Hp} {r : Option Value} {h' : Hp}
theorem Rx_get {idx ci k a : Nat} {fs : List Value} {v : Value} (hd : decode M.2.1 pc = .ok (.getfield idx, 3)) (hl : FL M.1.cls idx ci k) (hh : h[a]? = some (.inr (ci, fs))) (hv : lat fs k = some v) (K : Rx M d (pc + 3) ls (v :: st) h r h') : Rx M d pc ls (.ref a :: st) h r h' := by
  refine K.step (fun {_ _ _ _ _ _ _ _ _ _ D cA b _ _ _ _ _ _} C _ w _ k0 => ?_)
  obtain ⟨q, hq, hk, hlink⟩ := hl
  obtain ⟨c1, c2, c3, c4, c5, c6, c7, c8, c9, c10⟩ := C
  have hv' : (fs.map (mp b))[k]? = some (mp b v) := by rw [lat_eq] at hv; simp [hv]
  have he : (wz cA b h)[a]? = some (b + a, .inr (ci, fs.map (mp b))) := wz_at hh
  rcases hlink with hlink | ⟨host, hlink⟩
  · exact va_get (ci := ci) c1 c2 c8 (cl_in hq) c7 c9 w.1 a he hq k hk (c8 _ hlink) (fun _ z => z) hv' hd k0
  · exact va_getN (ci := ci) c1 c2 c8 (cl_in hq) c7 c9 w.1 a he hq k hk (va_Nw.use rfl (c10.1 _ hlink rfl)) (fun _ z => z) hv' hd k0
theorem Rx_put {idx ci k a : Nat} {fs : List Value} {v : Value} {ty : FieldType} (fs' : List Value) (hd : decode M.2.1 pc = .ok (.putfield idx, 3)) (hl : FP M.1.cls idx ci k ty) (hh : h[a]? = some (.inr (ci, fs))) (hkl : Nat.ble (k + 1) fs.length = true) (hv : okv ty v) (hs : lse fs k v = fs') (K : Rx M d (pc + 3) ls st (h.set a (.inr (ci, fs'))) r h') : Rx M d pc ls (v :: .ref a :: st) h r h' := by
  subst hs
  refine Rx.stepH (e1 := .inr (ci, lse fs k v)) hh (lse_len fs k v) K (fun {_ _ _ _ _ _ _ _ _ _ D cA b _ _ _ _ _ _} C _ _ hP hD hS k0 => ?_)
  obtain ⟨q, hq, hk, hfin, hty, hlink⟩ := hl
  obtain ⟨c1, c2, c3, c4, c5, c6, c7, c8, c9, c10⟩ := C
  obtain ⟨⟨ty0, hty0⟩, hnm⟩ := cl_ty hq
  have he : (wz cA b h)[a]? = some (b + a, .inr (ci, fs.map (mp b))) := wz_at hh
  have em : mE cA b (.inr (ci, lse fs k v)) = .inr (ci, (fs.map (mp b)).set k (mp b v)) := by rw [lse_eq]; simp [mE, List.map_set]
  rw [em] at k0
  have hkl' : k < (fs.map (mp b)).length := by rw [List.length_map]; exact Nat.le_of_ble_eq_true hkl
  rcases hlink with hlink | ⟨host, hlink⟩
  · exact va_put (ci := ci) c1 c2 c8 (cl_in hq) ty0 hty0 hnm c7 c9 hP hD hS a he hq k hk (c8 _ hlink) (fun _ z => z) hfin hty (hv b).1 (hv b).2 hkl' hd k0
  · exact va_putN (ci := ci) c1 c2 c8 (cl_in hq) ty0 hty0 hnm c7 c9 hP hD hS a he hq k hk (va_Nw.use rfl (c10.1 _ hlink rfl)) (fun _ z => z) hfin hty (hv b).1 (hv b).2 hkl' hd k0
theorem Rx_putF {idx ci k a : Nat} {fs : List Value} {v : Value} {ty : FieldType} (fs' : List Value) (hd : decode M.2.1 pc = .ok (.putfield idx, 3)) (hl : FF M.1.cls idx ci k ty) (hi : M.1.name = "<init>") (hh : h[a]? = some (.inr (ci, fs))) (hkl : Nat.ble (k + 1) fs.length = true) (hv : okv ty v) (hs : lse fs k v = fs') (K : Rx M d (pc + 3) ls st (h.set a (.inr (ci, fs'))) r h') : Rx M d pc ls (v :: .ref a :: st) h r h' := by
  subst hs
  refine Rx.stepH (e1 := .inr (ci, lse fs k v)) hh (lse_len fs k v) K (fun {_ _ _ _ _ _ _ _ _ _ D cA b _ _ _ _ _ _} C _ _ hP hD hS k0 => ?_)
  obtain ⟨q, hq, hk, hfin, hown, hty, hlink⟩ := hl
  obtain ⟨c1, c2, c3, c4, c5, c6, c7, c8, c9, c10⟩ := C
  obtain ⟨⟨ty0, hty0⟩, hnm⟩ := cl_ty hq
  have he : (wz cA b h)[a]? = some (b + a, .inr (ci, fs.map (mp b))) := wz_at hh
  have em : mE cA b (.inr (ci, lse fs k v)) = .inr (ci, (fs.map (mp b)).set k (mp b v)) := by rw [lse_eq]; simp [mE, List.map_set]
  rw [em] at k0
  have hkl' : k < (fs.map (mp b)).length := by rw [List.length_map]; exact Nat.le_of_ble_eq_true hkl
  exact va_putF (ci := ci) c1 c2 c8 (cl_in hq) ty0 hty0 hnm c7 c9 hP hD hS a he hq k hk (c8 _ hlink) (fun _ z => z) hfin (c6.trans hi) hown hty (hv b).1 (hv b).2 hkl' hd k0
theorem Rx_iald {a n : Nat} {f : Nat → Int32} {i : Int32} (j : Nat) (hd : decode M.2.1 pc = .ok (.iaload, 1)) (hh : h[a]? = some (aI n f)) (hj : j < n) (hn : n < 2 ^ 31) (hi : i = nI j) (K : Rx M d (pc + 1) ls (.int (f j) :: st) h r h') : Rx M d pc ls (.int i :: .ref a :: st) h r h' := by
  subst hi
  refine K.step (fun {_ _ _ _ _ _ _ _ _ _ D cA b _ _ _ _ _ _} C _ w _ k0 => ?_)
  have he : (wz cA b h)[a]? = some (b + a, .inl (cA 0, n, .inl f)) := wz_at hh
  refine va_iald C.1 C.2.1 C.2.2.2.2.2.2.2.2.1 w.1 a 0 he rfl (vp_in_nI hj hn) hd ?_
  rw [nI_clamp (Nat.lt_trans hj hn)]
  exact k0
theorem Rx_lald {a n : Nat} {f : Nat → Int64} {i : Int32} (j : Nat) (hd : decode M.2.1 pc = .ok (.laload, 1)) (hh : h[a]? = some (aL n f)) (hj : j < n) (hn : n < 2 ^ 31) (hi : i = nI j) (K : Rx M d (pc + 1) ls (.long (f j) :: st) h r h') : Rx M d pc ls (.int i :: .ref a :: st) h r h' := by
  subst hi
  refine K.step (fun {_ _ _ _ _ _ _ _ _ _ D cA b _ _ _ _ _ _} C _ w _ k0 => ?_)
  have he : (wz cA b h)[a]? = some (b + a, .inl (cA 1, n, .inr (.inl f))) := wz_at hh
  refine va_lald C.1 C.2.1 C.2.2.2.2.2.2.2.2.1 w.1 a 1 he rfl (vp_in_nI hj hn) hd ?_
  rw [nI_clamp (Nat.lt_trans hj hn)]
  exact k0
theorem Rx_aald {a n q : Nat} {f : Nat → Option Nat} {i : Int32} (j : Nat) (hd : decode M.2.1 pc = .ok (.aaload, 1)) (hh : h[a]? = some (aS n f)) (hj : j < n) (hn : n < 2 ^ 31) (hi : i = nI j) (hf : f j = some q) (K : Rx M d (pc + 1) ls (.ref q :: st) h r h') : Rx M d pc ls (.int i :: .ref a :: st) h r h' := by
  subst hi
  refine K.step (fun {_ _ _ _ _ _ _ _ _ _ D cA b _ _ _ _ _ _} C _ w _ k0 => ?_)
  have he : (wz cA b h)[a]? = some (b + a, .inl (cA 2, n, .inr (.inr (.inr (.inr (fun i => (f i).map (fun a => b + a))))))) := wz_at hh
  refine va_aldq (C := RX6) C.1 C.2.1 C.2.2.2.2.2.2.2.2.1 w.1 a 2 he rfl (vp_in_nI hj hn) hd ?_
  rw [nI_clamp (Nat.lt_trans hj hn)]
  simp only [hf, Option.map_some]
  exact k0
theorem Rx_iast {a n : Nat} {f : Nat → Int32} {i x : Int32} (j : Nat) (hd : decode M.2.1 pc = .ok (.iastore, 1)) (hh : h[a]? = some (aI n f)) (hj : j < n) (hn : n < 2 ^ 31) (hi : i = nI j) (K : Rx M d (pc + 1) ls st (h.set a (aI n (upd f j x))) r h') : Rx M d pc ls (.int x :: .int i :: .ref a :: st) h r h' := by
  subst hi
  refine Rx.stepH (e1 := aI n (upd f j x)) hh rfl K (fun {_ _ _ _ _ _ _ _ _ _ D cA b _ _ _ _ _ _} C _ _ hP hD hS k0 => ?_)
  have he : (wz cA b h)[a]? = some (b + a, .inl (cA 0, n, .inl f)) := wz_at hh
  refine va_iast C.1 C.2.1 C.2.2.2.2.2.2.2.2.1 hP hD hS a 0 he rfl (vp_in_nI hj hn) hd ?_
  rw [nI_clamp (Nat.lt_trans hj hn)]
  exact k0
theorem Rx_last {a n : Nat} {f : Nat → Int64} {i : Int32} {x : Int64} (j : Nat) (hd : decode M.2.1 pc = .ok (.lastore, 1)) (hh : h[a]? = some (aL n f)) (hj : j < n) (hn : n < 2 ^ 31) (hi : i = nI j) (K : Rx M d (pc + 1) ls st (h.set a (aL n (vp_updL f j x))) r h') : Rx M d pc ls (.long x :: .int i :: .ref a :: st) h r h' := by
  subst hi
  refine Rx.stepH (e1 := aL n (vp_updL f j x)) hh rfl K (fun {_ _ _ _ _ _ _ _ _ _ D cA b _ _ _ _ _ _} C _ _ hP hD hS k0 => ?_)
  have he : (wz cA b h)[a]? = some (b + a, .inl (cA 1, n, .inr (.inl f))) := wz_at hh
  refine va_last C.1 C.2.1 C.2.2.2.2.2.2.2.2.1 hP hD hS a 1 he rfl (vp_in_nI hj hn) hd ?_
  rw [nI_clamp (Nat.lt_trans hj hn)]
  exact k0
theorem Rx_aast {a n v : Nat} {f : Nat → Option Nat} {i : Int32} {vs : List Value} (j : Nat) (hd : decode M.2.1 pc = .ok (.aastore, 1)) (hh : h[a]? = some (aS n f)) (hj : j < n) (hn : n < 2 ^ 31) (hi : i = nI j) (hv : h[v]? = some (.inr (6, vs))) (K : Rx M d (pc + 1) ls st (h.set a (aS n (va_up f j (some v)))) r h') : Rx M d pc ls (.ref v :: .int i :: .ref a :: st) h r h' := by
  subst hi
  refine Rx.stepH (e1 := aS n (va_up f j (some v))) hh rfl K (fun {_ _ _ _ _ _ _ _ _ _ D cA b _ _ _ _ _ _} C _ _ hP hD hS k0 => ?_)
  have he : (wz cA b h)[a]? = some (b + a, .inl (cA 2, n, .inr (.inr (.inr (.inr (fun i => (f i).map (fun a => b + a))))))) := wz_at hh
  have hv' : (wz cA b h)[v]? = some (b + v, .inr (6, vs.map (mp b))) := wz_at hv
  refine va_astq (r := (RX6, TX6, 4)) C.1 C.2.1 C.2.2.2.2.2.2.2.2.1 hP hD hS a 2 v 6 he rfl hv' rfl (vp_in_nI hj hn) hd ?_
  rw [nI_clamp (Nat.lt_trans hj hn)]
  have ef : (fun i => (va_up f j (some v) i).map (fun a => b + a)) = va_up (fun i => (f i).map (fun a => b + a)) j (some (b + v)) := by
    funext z
    by_cases hz : z = j <;> simp [va_up, hz]
  have em : mE cA b (aS n (va_up f j (some v))) = .inl (cA 2, n, .inr (.inr (.inr (.inr (va_up (fun i => (f i).map (fun a => b + a)) j (some (b + v))))))) := by rw [← ef]; rfl
  rw [em] at k0
  exact k0
theorem Rx_alenI {a n : Nat} {f : Nat → Int32} (hd : decode M.2.1 pc = .ok (.arraylength, 1)) (hh : h[a]? = some (aI n f)) (K : Rx M d (pc + 1) ls (.int (nI n) :: st) h r h') : Rx M d pc ls (.ref a :: st) h r h' := by
  refine K.step (fun {_ _ _ _ _ _ _ _ _ _ D cA b _ _ _ _ _ _} C _ w _ k0 => ?_)
  have he : (wz cA b h)[a]? = some (b + a, .inl (cA 0, n, .inl f)) := wz_at hh
  exact va_alen C.1 C.2.1 C.2.2.2.2.2.2.2.2.1 w.1 a 0 he rfl rfl hd k0
theorem Rx_alenL {a n : Nat} {f : Nat → Int64} (hd : decode M.2.1 pc = .ok (.arraylength, 1)) (hh : h[a]? = some (aL n f)) (K : Rx M d (pc + 1) ls (.int (nI n) :: st) h r h') : Rx M d pc ls (.ref a :: st) h r h' := by
  refine K.step (fun {_ _ _ _ _ _ _ _ _ _ D cA b _ _ _ _ _ _} C _ w _ k0 => ?_)
  have he : (wz cA b h)[a]? = some (b + a, .inl (cA 1, n, .inr (.inl f))) := wz_at hh
  exact va_alen C.1 C.2.1 C.2.2.2.2.2.2.2.2.1 w.1 a 1 he rfl rfl hd k0
theorem Rx_newI {i : Int32} (n : Nat) (hd : decode M.2.1 pc = .ok (.newarray .int, 2)) (hw : Cond.arrayClass .int ∈ gtbl) (hi : i = nI n) (hn : n * 4 ≤ 536870912) (K : Rx M d (pc + 2) ls (.ref h.length :: st) (h ++ [aI n (fun _ => 0)]) r h') : Rx M d pc ls (.int i :: st) h r h' := by
  subst hi
  refine Rx.stepN (e1 := aI n (fun _ => 0)) K (fun {_ _ _ _ _ _ _ _ _ _ D cA b _ _ _ _ _ _} C _ hc hs hP hD hS hA k0 => ?_)
  obtain ⟨c1, c2, c3, c4, c5, c6, c7, c8, c9, c10⟩ := C
  refine va_newa (atype := .int) (ty := .int) (N' := n) (a0 := (n, .inl (fun _ => 0))) c1 c2 (c8 _ hw) rfl c9 hP hD hS hA (fun _ => rfl) (nI_pos (by omega)) (nI_clamp (by omega)) hn hc hs hd (fun q cB H1 hK1 hP1 hD1 hS1 => ?_)
  have e : cB = cA 0 := by
    have h1 : _ = some cB := (hK1.2 3 _ rfl).2
    have h2 : _ = some (cA 0) := (c9.2 0 _ rfl).2
    exact Option.some.inj (h1.symm.trans h2)
  subst e
  exact k0 q H1 hP1 hD1 hS1
theorem Rx_newL {i : Int32} (n : Nat) (hd : decode M.2.1 pc = .ok (.newarray .long, 2)) (hw : Cond.arrayClass .long ∈ gtbl) (hi : i = nI n) (hn : n * 8 ≤ 536870912) (K : Rx M d (pc + 2) ls (.ref h.length :: st) (h ++ [aL n (fun _ => 0)]) r h') : Rx M d pc ls (.int i :: st) h r h' := by
  subst hi
  refine Rx.stepN (e1 := aL n (fun _ => 0)) K (fun {_ _ _ _ _ _ _ _ _ _ D cA b _ _ _ _ _ _} C _ hc hs hP hD hS hA k0 => ?_)
  obtain ⟨c1, c2, c3, c4, c5, c6, c7, c8, c9, c10⟩ := C
  refine va_newa (atype := .long) (ty := .long) (N' := n) (a0 := (n, .inr (.inl (fun _ => 0)))) c1 c2 (c8 _ hw) rfl c9 hP hD hS hA (fun _ => rfl) (nI_pos (by omega)) (nI_clamp (by omega)) hn hc hs hd (fun q cB H1 hK1 hP1 hD1 hS1 => ?_)
  have e : cB = cA 1 := by
    have h1 : _ = some cB := (hK1.2 3 _ rfl).2
    have h2 : _ = some (cA 1) := (c9.2 1 _ rfl).2
    exact Option.some.inj (h1.symm.trans h2)
  subst e
  exact k0 q H1 hP1 hD1 hS1
theorem Rx_newS {i : Int32} {idx : Nat} (n : Nat) (hd : decode M.2.1 pc = .ok (.anewarray idx, 3)) (hl : Cond.classLink M.1.cls idx RX6 ∈ gtbl) (hi : i = nI n) (hn : n * 4 ≤ 536870912) (K : Rx M d (pc + 3) ls (.ref h.length :: st) (h ++ [aS n (fun _ => none)]) r h') : Rx M d pc ls (.int i :: st) h r h' := by
  subst hi
  refine Rx.stepN (e1 := aS n (fun _ => none)) K (fun {_ _ _ _ _ _ _ _ _ _ D cA b _ _ _ _ _ _} C _ hc hs hP hD hS hA k0 => ?_)
  obtain ⟨c1, c2, c3, c4, c5, c6, c7, c8, c9, c10⟩ := C
  refine va_newq (C := RX6) (N' := n) c1 c2 c7 (c8 _ hl) c10.2.1 c9 hP hD hS hA (nI_pos (by omega)) (nI_clamp (by omega)) hn hc hs hd (fun q cB H1 hK1 hP1 hD1 hS1 => ?_)
  have e : cB = cA 2 := by
    obtain ⟨_, _, _, _, _, h1⟩ := (hK1.2 3 _ rfl).2
    obtain ⟨_, _, _, _, _, h2⟩ := (c9.2 2 _ rfl).2
    exact Option.some.inj (h1.symm.trans h2)
  subst e
  exact k0 q H1 hP1 hD1 hS1
def NL (own : String) (idx ci : Nat) (fs : List Value) : Prop := ∃ (q : vw_C) (ty : Nat → FieldType), vwCl[ci]? = some q ∧ (∀ k, k < q.2.2 → parseFieldDescriptor (q.2.1 k).2.2.1 = some (ty k)) ∧ (∀ j, j < q.2.2 → defaultValue (ty j) = vp_V fs j) ∧ fs.length = q.2.2 ∧ (∀ b, fs.map (mp b) = fs) ∧ Cond.classLink own idx q.1 ∈ gtbl ∧ Cond.instantiable q.1 q.2.2 ∈ gtbl ∧ Cond.initialized q.1 ∈ gtbl
theorem Rx_new {idx ci : Nat} {fs : List Value} (hd : decode M.2.1 pc = .ok (.new idx, 3)) (hl : NL M.1.cls idx ci fs) (K : Rx M d (pc + 3) ls (.ref h.length :: st) (h ++ [.inr (ci, fs)]) r h') : Rx M d pc ls st h r h' := by
  refine Rx.stepN (e1 := .inr (ci, fs)) K (fun {_ _ _ _ _ _ _ _ _ _ D cA b _ _ _ _ _ _} C _ hc hs hP hD hS hA k0 => ?_)
  obtain ⟨c1, c2, c3, c4, c5, c6, c7, c8, c9, c10⟩ := C
  obtain ⟨q, ty, h1, h2, h3, h4, h5, h6, h7, h8⟩ := hl
  have em : mE cA b (.inr (ci, fs)) = .inr (ci, fs) := by show Sum.inr (ci, fs.map (mp b)) = _; rw [h5]
  have es : esz (.inr (ci, fs)) = q.2.2 := h4
  rw [em, es] at k0
  rw [es] at hs
  exact va_new (ci := ci) c1 c2 c8 (cl_in h1) ty h2 c7 (c8 _ h6) (c8 _ h7) (c8 _ h8) c9 hP hD hS hA h1 h3 hc hs hd k0
/-! ends of a method -/
theorem Rx_iret {v : Int32} (hd : decode M.2.1 pc = .ok (.ireturn, 1)) (hr : M.2.2.2 = some .int) : Rx M d pc ls [.int v] h (some (.int v)) h := by
  refine ⟨Gz.rf _, Nat.le_refl _, fun p l e R s m args below meth c D cA b H locs cells slots LS C hR hw hl => ?_⟩
  obtain ⟨c1, c2, c3, c4, c5, c6, c7, c8, c9, c10⟩ := C
  obtain ⟨w1, w2, w3, w4, w5⟩ := hw
  rw [Nat.sub_self, Nat.sub_self, Nat.add_zero, Nat.add_zero]
  exact W.iret (v := v) c1 c2 (c4.trans hr) (fun t ht _ => ⟨rfl, by rw [ht]; exact w1, by rw [ht]; exact w2, w3.F ht⟩) w3.2.2 hd c5
theorem Rx_zret {v : Int32} {ty : FieldType} (hd : decode M.2.1 pc = .ok (.ireturn, 1)) (hr : M.2.2.2 = some ty) (hn : narrow ty (.int v) = .int v) : Rx M d pc ls [.int v] h (some (.int v)) h := by
  refine ⟨Gz.rf _, Nat.le_refl _, fun p l e R s m args below meth c D cA b H locs cells slots LS C hR hw hl => ?_⟩
  obtain ⟨c1, c2, c3, c4, c5, c6, c7, c8, c9, c10⟩ := C
  obtain ⟨w1, w2, w3, w4, w5⟩ := hw
  rw [Nat.sub_self, Nat.sub_self, Nat.add_zero, Nat.add_zero]
  exact W.zret (v := v) c1 c2 (c4.trans hr) hn (fun t ht _ => ⟨rfl, by rw [ht]; exact w1, by rw [ht]; exact w2, w3.F ht⟩) w3.2.2 hd c5
theorem nz_0 : narrow .boolean (.int 0) = .int 0 := by decide +kernel
theorem nz_1 : narrow .boolean (.int 1) = .int 1 := by decide +kernel
theorem Rx_lret {v : Int64} (hd : decode M.2.1 pc = .ok (.lreturn, 1)) (hr : M.2.2.2 = some .long) : Rx M d pc ls [.long v] h (some (.long v)) h := by
  refine ⟨Gz.rf _, Nat.le_refl _, fun p l e R s m args below meth c D cA b H locs cells slots LS C hR hw hl => ?_⟩
  obtain ⟨c1, c2, c3, c4, c5, c6, c7, c8, c9, c10⟩ := C
  obtain ⟨w1, w2, w3, w4, w5⟩ := hw
  rw [Nat.sub_self, Nat.sub_self, Nat.add_zero, Nat.add_zero]
  exact W.lret (v := v) c1 c2 (c4.trans hr) (fun t ht _ => ⟨rfl, by rw [ht]; exact w1, by rw [ht]; exact w2, w3.F ht⟩) w3.2.2 hd c5
theorem Rx_vret (hd : decode M.2.1 pc = .ok (.return_, 1)) (hr : M.2.2.2 = none) : Rx M d pc ls [] h none h := by
  refine ⟨Gz.rf _, Nat.le_refl _, fun p l e R s m args below meth c D cA b H locs cells slots LS C hR hw hl => ?_⟩
  obtain ⟨c1, c2, c3, c4, c5, c6, c7, c8, c9, c10⟩ := C
  obtain ⟨w1, w2, w3, w4, w5⟩ := hw
  rw [Nat.sub_self, Nat.sub_self, Nat.add_zero, Nat.add_zero]
  exact W.vret c1 c2 (c4.trans hr) (fun t ht _ => ⟨rfl, by rw [ht]; exact w1, by rw [ht]; exact w2, w3.F ht⟩) w3.2.2 hd c5
theorem Rx_aret {a : Nat} {ty : FieldType} (hd : decode M.2.1 pc = .ok (.areturn, 1)) (hr : M.2.2.2 = some ty) (hty : (∃ n, ty = .object n) ∨ ∃ t, ty = .array t) : Rx M d pc ls [.ref a] h (some (.ref a)) h := by
  refine ⟨Gz.rf _, Nat.le_refl _, fun p l e R s m args below meth c D cA b H locs cells slots LS C hR hw hl => ?_⟩
  obtain ⟨c1, c2, c3, c4, c5, c6, c7, c8, c9, c10⟩ := C
  obtain ⟨w1, w2, w3, w4, w5⟩ := hw
  rw [Nat.sub_self, Nat.sub_self, Nat.add_zero, Nat.add_zero]
  exact W.aret (v := .ref (b + a)) c1 c2 (c4.trans hr) hty (Or.inr ⟨_, rfl⟩) (fun t ht _ => ⟨rfl, by rw [ht]; exact w1, by rw [ht]; exact w2, w3.F ht⟩) w3.2.2 hd c5
end RULES
