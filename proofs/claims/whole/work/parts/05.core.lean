/-! THE WALK'S OWN JUDGEMENT. A heap of ours is a list of cells, a reference a place in it; Rx M d pc ls st h r h': method M, at pc with locals ls, stack st and heap h,
returns r and leaves the heap h', with d frames to spare. Each rule turns Rx at an instruction into Rx at the next. Mx: the same of a whole call. -/
abbrev vwCl : List vw_C := [(RX0, TX0, 5), (RX1, TX1, 6), (RX2, TX2, 2), (RX3, TX3, 13), (RX4, TX4, 2), (RX5, TX5, 2), (RX6, TX6, 4), (RX7, TX7, 2), (RX8, TX8, 11), (RX9, TX9, 30)]
abbrev Mi : Type := MethodName × ByteArray × Nat × Option FieldType
abbrev Hp : Type := List va_E
abbrev aI (n : Nat) (f : Nat → Int32) : va_E := .inl (0, n, .inl f)
abbrev aL (n : Nat) (f : Nat → Int64) : va_E := .inl (1, n, .inr (.inl f))
abbrev aS (n : Nat) (f : Nat → Option Nat) : va_E := .inl (2, n, .inr (.inr (.inr (.inr f))))
abbrev ob (ci : Nat) (fs : List Value) : va_E := .inr (ci, fs)
def mp (b : Nat) (v : Value) : Value := match v with
  | .ref a => .ref (b + a)
  | v => v
def mE (cA : Nat → ClassId) (b : Nat) (e : va_E) : va_E := match e with
  | .inl (k, n, .inl f) => .inl (cA k, n, .inl f)
  | .inl (k, n, .inr (.inl f)) => .inl (cA k, n, .inr (.inl f))
  | .inl (k, n, .inr (.inr (.inl f))) => .inl (cA k, n, .inr (.inr (.inl f)))
  | .inl (k, n, .inr (.inr (.inr (.inl f)))) => .inl (cA k, n, .inr (.inr (.inr (.inl f))))
  | .inl (k, n, .inr (.inr (.inr (.inr f)))) => .inl (cA k, n, .inr (.inr (.inr (.inr (fun i => (f i).map (fun a => b + a))))))
  | .inr (ci, fs) => .inr (ci, fs.map (mp b))
def wz (cA : Nat → ClassId) (b : Nat) (h : Hp) : va_W := h.mapIdx (fun k e => (b + k, mE cA b e))
def esz (e : va_E) : Nat := match e with
  | .inl (_, n, _) => n
  | .inr (_, fs) => fs.length
def hsz (h : Hp) : Nat := (h.map esz).sum
abbrev tyz (cA : Nat → ClassId) : List (ClassId × FieldType) := [(cA 0, .int), (cA 1, .long), (cA 2, .object RX6)]
theorem mp_cat (b : Nat) (v : Value) : (mp b v).category = v.category := by cases v <;> rfl
theorem wz_at {cA : Nat → ClassId} {b : Nat} {h : Hp} {k : Nat} {e : va_E} (hk : h[k]? = some e) : (wz cA b h)[k]? = some (b + k, mE cA b e) := by
  simp [wz, List.getElem?_mapIdx, hk]
theorem wz_len (cA : Nat → ClassId) (b : Nat) (h : Hp) : (wz cA b h).length = h.length := by simp [wz]
theorem wz_inv {cA : Nat → ClassId} {b : Nat} {h : Hp} {k : Nat} {q : Nat × va_E} (hk : (wz cA b h)[k]? = some q) : ∃ e, h[k]? = some e ∧ q = (b + k, mE cA b e) := by
  simp only [wz, List.getElem?_mapIdx, Option.map_eq_some_iff] at hk
  obtain ⟨e, h1, h2⟩ := hk
  exact ⟨e, h1, h2.symm⟩
theorem wz_set {cA : Nat → ClassId} {b : Nat} {h : Hp} {k : Nat} {e : va_E} : wz cA b (h.set k e) = (wz cA b h).set k (b + k, mE cA b e) := by
  apply List.ext_getElem?
  intro i
  simp only [wz, List.getElem?_mapIdx, List.getElem?_set, List.length_mapIdx]
  by_cases hi : k = i
  · subst hi
    by_cases hl : k < h.length <;> simp [hl]
  · simp [hi]
theorem wz_push {cA : Nat → ClassId} {b : Nat} {h : Hp} {e : va_E} : wz cA b (h ++ [e]) = wz cA b h ++ [(b + h.length, mE cA b e)] := by
  simp [wz, List.mapIdx_append]
theorem wz_D (cA : Nat → ClassId) (b : Nat) (h : Hp) : va_D (fun q => b ≤ q) (wz cA b h) := by
  refine ⟨fun i j x y hi hj hxy => ?_, fun k q hk => ?_⟩
  · obtain ⟨_, _, rfl⟩ := wz_inv hi
    obtain ⟨_, _, rfl⟩ := wz_inv hj
    have : b + i = b + j := hxy
    omega
  · obtain ⟨_, _, rfl⟩ := wz_inv hk
    exact Nat.le_add_right _ _
theorem hsz_set {h : Hp} {k : Nat} {e e' : va_E} (hk : h[k]? = some e) (he : esz e' = esz e) : hsz (h.set k e') = hsz h := by
  induction h generalizing k with
  | nil => simp at hk
  | cons a l ih =>
    cases k with
    | zero =>
      simp only [List.getElem?_cons_zero, Option.some.injEq] at hk
      subst hk
      simp [hsz, he]
    | succ k =>
      simp only [List.getElem?_cons_succ] at hk
      have := ih hk
      simp only [hsz, List.set_cons_succ, List.map_cons, List.sum_cons] at this ⊢
      omega
/-- cells keep their sizes, new ones come behind -/
def Gz (h h' : Hp) : Prop := ∃ t, h'.map esz = h.map esz ++ t
theorem Gz.rf (h : Hp) : Gz h h := ⟨[], by simp⟩
theorem Gz.trans {h h1 h2 : Hp} (x : Gz h h1) (y : Gz h1 h2) : Gz h h2 := by
  obtain ⟨t, ht⟩ := x
  obtain ⟨u, hu⟩ := y
  exact ⟨t ++ u, by rw [hu, ht, List.append_assoc]⟩
theorem Gz.len {h h' : Hp} (x : Gz h h') : h.length ≤ h'.length := by
  obtain ⟨t, ht⟩ := x
  have := congrArg List.length ht
  simp at this
  omega
theorem Gz.set {h : Hp} {k : Nat} {e e' : va_E} (hk : h[k]? = some e) (he : esz e' = esz e) : Gz h (h.set k e') := by
  refine ⟨[], ?_⟩
  rw [List.append_nil, List.map_set]
  apply List.ext_getElem?
  intro j
  by_cases hj : k = j
  · subst hj
    have hl := (List.getElem?_eq_some_iff.mp hk).1
    rw [List.getElem?_set, if_pos rfl, List.length_map, if_pos hl, List.getElem?_map, hk, he]
    rfl
  · rw [List.getElem?_set_ne hj]
theorem Gz.push (h : Hp) (e : va_E) : Gz h (h ++ [e]) := ⟨[esz e], by simp⟩
theorem hsz_push (h : Hp) (e : va_E) : hsz (h ++ [e]) = hsz h + esz e := by simp [hsz]
/-! locals -/
def jn (v : Value) : Bool := match v with
  | .retAddr _ => true
  | _ => false
def lat : List Value → Nat → Option Value
  | [], _ => none
  | v :: _, 0 => some v
  | _ :: l, i + 1 => lat l i
def lse : List Value → Nat → Value → List Value
  | [], _, _ => []
  | _ :: l, 0, v => v :: l
  | w :: l, i + 1, v => w :: lse l i v
def nol (ls : List Value) (i : Nat) : Bool := match i with
  | 0 => true
  | k + 1 => match lat ls k with
    | some (.long _) => false
    | some (.double _) => false
    | _ => true
theorem lat_lt {ls : List Value} {k : Nat} {v : Value} (h : lat ls k = some v) : k < ls.length := by
  induction ls generalizing k with
  | nil => cases h
  | cons a l ih =>
    cases k with
    | zero => simp
    | succ k => have := ih h; simp only [List.length_cons]; omega
theorem lat_lse {ls : List Value} {i k : Nat} {v : Value} : lat (lse ls i v) k = if k = i then (if i < ls.length then some v else none) else lat ls k := by
  induction ls generalizing i k with
  | nil => cases k <;> cases i <;> simp [lse, lat]
  | cons a l ih =>
    cases i with
    | zero => cases k <;> simp [lse, lat]
    | succ i =>
      cases k with
      | zero => simp [lse, lat]
      | succ k => simp only [lse, lat, ih, List.length_cons]; simp
theorem nol_cat {ls : List Value} {i k : Nat} {v : Value} (h : nol ls i = true) (hk : k + 1 = i) (hv : lat ls k = some v) : v.category = 1 := by
  subst hk
  simp only [nol, hv] at h
  cases v <;> first | rfl | cases h
def LR (b n : Nat) (LS : Array Slot) (ls : List Value) : Prop := LS.size = n ∧ lv_wf LS ∧ ∀ k v, lat ls k = some v → jn v = false → LS[k]? = some (.val (mp b v))
def lvz (b : Nat) (ls : List Value) : List (Nat × Value) := (List.range ls.length).filterMap (fun k => (lat ls k).bind (fun v => if jn v = true then none else some (k, mp b v)))
theorem LR_mem {b : Nat} {ls : List Value} {k : Nat} {v : Value} (h : lat ls k = some v) (hj : jn v = false) : (k, mp b v) ∈ lvz b ls := by
  refine List.mem_filterMap.mpr ⟨k, List.mem_range.mpr (lat_lt h), ?_⟩
  simp [h, hj]
theorem LR_has {b n : Nat} {LS : Array Slot} {ls : List Value} (h : LR b n LS ls) : lv_has LS n (lvz b ls) := by
  refine ⟨h.1, h.2.1, fun q hq => ?_⟩
  obtain ⟨k, -, hk⟩ := List.mem_filterMap.mp hq
  cases hv : lat ls k with
  | none => rw [hv] at hk; cases hk
  | some v =>
    rw [hv] at hk
    simp only [Option.bind_some] at hk
    by_cases hj : jn v = true
    · rw [if_pos hj] at hk; cases hk
    · rw [if_neg hj] at hk
      cases hk
      exact h.2.2 k v hv (by simpa using hj)
theorem LR_sto1 {b n : Nat} {LS' : Array Slot} {ls : List Value} {i : Nat} {v : Value} (hn : nol ls i = true)
    (h : lv_has LS' n ((i, mp b v) :: (lvz b ls).filter (fun q => !(q.1 == i) && !(q.1 + 1 == i && q.2.category == 2)))) : LR b n LS' (lse ls i v) := by
  refine ⟨h.1, h.2.1, fun k w hk hj => ?_⟩
  rw [lat_lse] at hk
  by_cases hki : k = i
  · subst hki
    rw [if_pos rfl] at hk
    split at hk
    · cases hk
      exact h.2.2 (k, mp b v) List.mem_cons_self
    · cases hk
  · rw [if_neg hki] at hk
    refine h.2.2 (k, mp b w) (List.mem_cons_of_mem _ (List.mem_filter.mpr ⟨LR_mem hk hj, ?_⟩))
    by_cases h1 : k + 1 = i
    · have := nol_cat hn h1 hk
      simp [hki, mp_cat, this]
    · simp [hki, h1]
theorem LR_sto2 {b n : Nat} {LS' : Array Slot} {ls : List Value} {i : Nat} {v : Value} (hn : nol ls i = true)
    (h : lv_has LS' n ((i, mp b v) :: (lvz b ls).filter (fun q => !(q.1 == i) && (!(q.1 == i + 1) && !(q.1 + 1 == i && q.2.category == 2))))) : LR b n LS' (lse (lse ls i v) (i + 1) (.retAddr 0)) := by
  refine ⟨h.1, h.2.1, fun k w hk hj => ?_⟩
  rw [lat_lse] at hk
  by_cases hk1 : k = i + 1
  · subst hk1
    rw [if_pos rfl] at hk
    split at hk
    · cases hk
      cases hj
    · cases hk
  · rw [if_neg hk1, lat_lse] at hk
    by_cases hki : k = i
    · subst hki
      rw [if_pos rfl] at hk
      split at hk
      · cases hk
        exact h.2.2 (k, mp b v) List.mem_cons_self
      · cases hk
    · rw [if_neg hki] at hk
      refine h.2.2 (k, mp b w) (List.mem_cons_of_mem _ (List.mem_filter.mpr ⟨LR_mem hk hj, ?_⟩))
      by_cases h1 : k + 1 = i
      · have := nol_cat hn h1 hk
        simp [hki, hk1, mp_cat, this]
      · simp [hki, hk1, h1]
/-! the tables' words -/
def gtbl : List Cond := lw_tbl.filter goodWord
def isNest (w : Cond) : Bool := match w with
  | .fieldLinkNest .. => true
  | .methodLinkNest .. => true
  | _ => false
theorem gt_good : GoodIn gtbl gtbl := fun _ h => ⟨h, good_of_word (List.mem_filter.mp h).2⟩
theorem gt_mem {w : Cond} (h : w ∈ lw_tbl) (hg : goodWord w = true) : w ∈ gtbl := List.mem_filter.mpr ⟨h, hg⟩
theorem gt_at {w : Cond} (i : Nat) (h : lw_tbl[i]? = some w) (hg : goodWord w = true) : w ∈ gtbl := gt_mem (List.mem_of_getElem? h) hg
def inn (j : Nat) : Int64 := match j with
  | 0 => 0xAAAAAAAAAAAAAAAA
  | 1 => 0xCCCCCCCCCCCCCCCC
  | 2 => 0xF0F0F0F0F0F0F0F0
  | 3 => 0xFF00FF00FF00FF00
  | 4 => 0xFFFF0000FFFF0000
  | _ => 0xFFFFFFFF00000000
def SX (b : Nat) (U : State) (H : Heap) : Prop := ∃ t, va_Z RX5 "INNER_WORDS" "[J" (.ref t) (fun q => b ≤ q) U H ∧ va_T .long t 6 (fun j => .long (inn j)) (fun q => b ≤ q) U H
def NW (b : Nat) (U : State) : Prop := (∀ w ∈ lw_tbl, isNest w = true → va_Nw w U) ∧ va_AO RX6 U ∧ SX b U U.heap
theorem NW_warm {b : Nat} {s U : State} {H : Heap} {locs : List Loc} (h : NW b s) (hU : U.heap = H) (hS : va_S (fun q => b ≤ q) s.heap H locs) (hW : s.WarmedH U.vm) : NW b U := by
  obtain ⟨h1, h2, t, h3, h4⟩ := h
  refine ⟨fun w hw hn => ?_, h2.moved hW.alike, t, ?_, ?_⟩
  · have hz := h1 w hw hn
    cases w <;> first | exact va_Nw.warmF hW hz | exact va_Nw.warmM hW hz | cases hn
  · rw [hU]; exact (h3.moved hW.alike).kept (fun a ha hn => hS.2.1 a ha hn)
  · rw [hU]; exact (h4.moved hW.alike).kept (fun a ha hn => hS.2.1 a ha hn)
theorem NW_vm {b : Nat} {s U : State} (h : NW b s) (hU : U.heap = s.heap) (hv : s.vm = U.vm) : NW b U := by
  obtain ⟨h1, h2, t, h3, h4⟩ := h
  have hA : s.vm.Alike U.vm := by rw [hv]; exact Vm.Alike.refl _
  refine ⟨fun w hw hn => ?_, h2.moved hA, t, ?_, ?_⟩
  · have hz := h1 w hw hn
    cases w <;> first | exact va_Nw.same rfl hv hz | cases hn
  · rw [hU]; exact h3.moved hA
  · rw [hU]; exact h4.moved hA
/-! the judgement -/
def Cx (M : Mi) (p : Program) (s : State) (m : MethodId) (args : Array Value) (meth : Method) (c : Code) (D : va_G) (cA : Nat → ClassId) (b : Nat) : Prop :=
  p.tables.exec = Jvm.exec ∧ c.code = M.2.1 ∧ c.maxLocals = M.2.2.1 ∧ meth.sig.returnType = M.2.2.2 ∧ meth.locks = false ∧ meth.name = M.1.name ∧ s.vm.findClass M.1.cls = some m.cls ∧ (∀ w ∈ gtbl, w.before args s = true) ∧ va_K D vwCl (tyz cA) s ∧ NW b s
def Rm (d : Nat) (R : Room) (cells slots : Nat) (h h' : Hp) : Prop := d ≤ R.frames ∧ 64 * d ≤ R.locals ∧ cells + (h'.length - h.length) ≤ R.cells ∧ slots + (hsz h' - hsz h) ≤ R.slots
def Wd (D : va_G) (cA : Nat → ClassId) (b : Nat) (s : State) (cells : Nat) (h : Hp) (H : Heap) (locs : List Loc) : Prop :=
  va_P D vwCl (wz cA b h) H ∧ H.size = b + h.length ∧ va_S (fun q => b ≤ q) s.heap H locs ∧ b ≤ s.heap.size ∧ s.heap.size + cells = H.size
def QX (D : va_G) (cA : Nat → ClassId) (b : Nat) (r : Option Value) (h' : Hp) : Array Value → State → Outcome → State → Prop := fun _ st o t =>
  o = .returned (r.map (mp b)) ∧ va_P D vwCl (wz cA b h') t.heap ∧ t.heap.size = b + h'.length ∧ va_F (fun q => b ≤ q) st t
def Rx (M : Mi) (d pc : Nat) (ls st : List Value) (h : Hp) (r : Option Value) (h' : Hp) : Prop :=
  Gz h h' ∧ hsz h ≤ hsz h' ∧
  ∀ (p : Program) (l : Launch) (e : Env) (R : Room) (s : State) (m : MethodId) (args : Array Value) (below : List Frame) (meth : Method) (c : Code) (D : va_G) (cA : Nat → ClassId) (b : Nat) (H : Heap) (locs : List Loc) (cells slots : Nat) (LS : Array Slot),
    Cx M p s m args meth c D cA b → Rm d R cells slots h h' → Wd D cA b s cells h H locs → LR b M.2.2.1 LS ls →
    W p l e R s m args below meth c H locs cells slots (MQ below (QX D cA b r h') args s (cells + (h'.length - h.length)) (slots + (hsz h' - hsz h)) (fun q => b ≤ q)) (F0 m pc LS (st.map (mp b)))
def PX (D : va_G) (cA : Nat → ClassId) (b : Nat) (as : List Value) (h : Hp) : Array Value → State → Prop :=
  va_Pc (as.map (mp b)) (fun U => va_P D vwCl (wz cA b h) U.heap ∧ U.heap.size = b + h.length ∧ va_K D vwCl (tyz cA) U ∧ NW b U)
def rmx (d : Nat) (h h' : Hp) : Room := { frames := d, cells := h'.length - h.length, slots := hsz h' - hsz h, locals := 64 * d }
def wsM (M : Mi) : List Cond := Cond.code M.1 M.2.1 M.2.2.1 M.2.2.2 :: gtbl
def Mx (M : Mi) (d : Nat) (as : List Value) (h : Hp) (r : Option Value) (h' : Hp) : Prop :=
  Gz h h' ∧ hsz h ≤ hsz h' ∧ ∀ (l : Launch) (D : va_G) (cA : Nat → ClassId) (b : Nat),
    Met l M.1 (wsM M) (rmx d h h') (PX D cA b as h) (QX D cA b r h') (h'.length - h.length) (hsz h' - hsz h) (fun q => b ≤ q)
theorem Rx.step {M : Mi} {d pc pc' : Nat} {ls st st' : List Value} {h : Hp} {r : Option Value} {h' : Hp} (K : Rx M d pc' ls st' h r h')
    (f : ∀ {p : Program} {l : Launch} {e : Env} {R : Room} {s : State} {m : MethodId} {args : Array Value} {below : List Frame} {meth : Method} {c : Code} {D : va_G} {cA : Nat → ClassId} {b : Nat} {H : Heap} {locs : List Loc} {cells slots : Nat} {LS : Array Slot} {Q : State → Prop},
      Cx M p s m args meth c D cA b → Rm d R cells slots h h' → Wd D cA b s cells h H locs → LR b M.2.2.1 LS ls →
      W p l e R s m args below meth c H locs cells slots Q (F0 m pc' LS (st'.map (mp b))) → W p l e R s m args below meth c H locs cells slots Q (F0 m pc LS (st.map (mp b)))) : Rx M d pc ls st h r h' :=
  ⟨K.1, K.2.1, fun p l e R s m args below meth c D cA b H locs cells slots LS C hR hw hl => f C hR hw hl (K.2.2 p l e R s m args below meth c D cA b H locs cells slots LS C hR hw hl)⟩
theorem Rx.stepL {M : Mi} {d pc pc' : Nat} {ls ls' st st' : List Value} {h : Hp} {r : Option Value} {h' : Hp} (K : Rx M d pc' ls' st' h r h')
    (f : ∀ {p : Program} {l : Launch} {e : Env} {R : Room} {s : State} {m : MethodId} {args : Array Value} {below : List Frame} {meth : Method} {c : Code} {D : va_G} {cA : Nat → ClassId} {b : Nat} {H : Heap} {locs : List Loc} {cells slots : Nat} {LS : Array Slot} {Q : State → Prop},
      Cx M p s m args meth c D cA b → LR b M.2.2.1 LS ls →
      (∀ LS' : Array Slot, LR b M.2.2.1 LS' ls' → W p l e R s m args below meth c H locs cells slots Q (F0 m pc' LS' (st'.map (mp b)))) → W p l e R s m args below meth c H locs cells slots Q (F0 m pc LS (st.map (mp b)))) : Rx M d pc ls st h r h' :=
  ⟨K.1, K.2.1, fun p l e R s m args below meth c D cA b H locs cells slots LS C hR hw hl => f C hl (fun LS' hl' => K.2.2 p l e R s m args below meth c D cA b H locs cells slots LS' C hR hw hl')⟩
theorem Wd.size {p : Program} {l : Launch} {e : Env} {R : Room} {s : State} {m : MethodId} {args : Array Value} {below : List Frame} {meth : Method} {c : Code} {T : State} {locs : List Loc} {cells slots : Nat} (X : Stand p l e R s m args below meth c T locs cells slots) : T.heap.size ≤ s.heap.size + cells := X.same.2.2.1
/-- a row that writes one cell of the heap -/
theorem Rx.stepH {M : Mi} {d pc pc' : Nat} {ls st st' : List Value} {h : Hp} {r : Option Value} {h' : Hp} {k : Nat} {e0 e1 : va_E} (hk : h[k]? = some e0) (hz : esz e1 = esz e0) (K : Rx M d pc' ls st' (h.set k e1) r h')
    (f : ∀ {p : Program} {l : Launch} {e : Env} {R : Room} {s : State} {m : MethodId} {args : Array Value} {below : List Frame} {meth : Method} {c : Code} {D : va_G} {cA : Nat → ClassId} {b : Nat} {H : Heap} {locs : List Loc} {cells slots : Nat} {LS : Array Slot} {Q : State → Prop},
      Cx M p s m args meth c D cA b → Rm d R cells slots h h' → LR b M.2.2.1 LS ls → va_P D vwCl (wz cA b h) H → va_D (fun q => b ≤ q) (wz cA b h) → va_S (fun q => b ≤ q) H H locs →
      (∀ (H1 : Heap) (locs1 : List Loc), va_P D vwCl ((wz cA b h).set k (b + k, mE cA b e1)) H1 → va_D (fun q => b ≤ q) ((wz cA b h).set k (b + k, mE cA b e1)) → va_S (fun q => b ≤ q) H H1 locs1 → W p l e R s m args below meth c H1 locs1 cells slots Q (F0 m pc' LS (st'.map (mp b)))) →
      W p l e R s m args below meth c H locs cells slots Q (F0 m pc LS (st.map (mp b)))) : Rx M d pc ls st h r h' := by
  obtain ⟨k1, k2, k3⟩ := K
  have g1 : (h.set k e1).length = h.length := List.length_set
  have g2 := hsz_set (e' := e1) hk hz
  have gz := (Gz.set (e' := e1) hk hz).trans k1
  rw [g2] at k2
  refine ⟨gz, k2, fun p l e R s m args below meth c D cA b H locs cells slots LS C hR hw hl => ?_⟩
  obtain ⟨hP, hs, hS, hb, hc⟩ := hw
  refine f C hR hl hP (wz_D cA b h) ⟨Nat.le_refl _, fun _ _ _ => rfl, hS.2.2⟩ (fun H1 locs1 hP1 _ hS1 => ?_)
  intro T hT X
  have hz1 : H1.size = H.size := by
    have h1 := Wd.size X
    rw [hT] at h1
    have h2 := hS1.1
    omega
  have hw1 : Wd D cA b s cells (h.set k e1) H1 locs1 := by
    refine ⟨by rw [wz_set]; exact hP1, by rw [hz1, hs, List.length_set], ⟨Nat.le_trans hS.1 hS1.1, fun q h1 h2 => ?_, hS1.2.2⟩, hb, by rw [hz1]; exact hc⟩
    rw [hS1.2.1 q (Nat.lt_of_lt_of_le h1 hS.1) h2]
    exact hS.2.1 q h1 h2
  have kk := k3 p l e R s m args below meth c D cA b H1 locs1 cells slots LS C (by simpa only [Rm, g1, g2] using hR) hw1 hl
  rw [g1, g2] at kk
  exact kk T hT X
/-- a row that makes one cell -/
theorem Rx.stepN {M : Mi} {d pc pc' : Nat} {ls st st' : List Value} {h : Hp} {r : Option Value} {h' : Hp} {e1 : va_E} (K : Rx M d pc' ls (.ref h.length :: st') (h ++ [e1]) r h')
    (f : ∀ {p : Program} {l : Launch} {e : Env} {R : Room} {s : State} {m : MethodId} {args : Array Value} {below : List Frame} {meth : Method} {c : Code} {D : va_G} {cA : Nat → ClassId} {b : Nat} {H : Heap} {locs : List Loc} {cells slots : Nat} {LS : Array Slot} {Q : State → Prop},
      Cx M p s m args meth c D cA b → LR b M.2.2.1 LS ls → cells + 1 ≤ R.cells → slots + esz e1 ≤ R.slots → va_P D vwCl (wz cA b h) H → va_D (fun q => b ≤ q) (wz cA b h) → va_S (fun q => b ≤ q) H H locs → (∀ q, H.size ≤ q → b ≤ q) →
      (∀ (q : Nat) (H1 : Heap), va_P D vwCl (wz cA b h ++ [(q, mE cA b e1)]) H1 → va_D (fun q => b ≤ q) (wz cA b h ++ [(q, mE cA b e1)]) → va_S (fun q => b ≤ q) H H1 locs → W p l e R s m args below meth c H1 locs (cells + 1) (slots + esz e1) Q (F0 m pc' LS (.ref q :: st'.map (mp b)))) →
      W p l e R s m args below meth c H locs cells slots Q (F0 m pc LS (st.map (mp b)))) : Rx M d pc ls st h r h' := by
  obtain ⟨k1, k2, k3⟩ := K
  have e1' : (h ++ [e1]).length = h.length + 1 := by simp
  have e2 := hsz_push h e1
  have gz := (Gz.push h e1).trans k1
  have k1 := k1.len
  rw [e1'] at k1
  rw [e2] at k2
  refine ⟨gz, by omega, fun p l e R s m args below meth c D cA b H locs cells slots LS C hR hw hl => ?_⟩
  obtain ⟨hP, hs, hS, hb, hc⟩ := hw
  obtain ⟨r1, r2, r3, r4⟩ := hR
  refine f C hl (by omega) (by omega) hP (wz_D cA b h) ⟨Nat.le_refl _, fun _ _ _ => rfl, hS.2.2⟩ (fun q hq => by omega) (fun q H1 hP1 hD1 hS1 => ?_)
  intro T hT X
  have hlast : (wz cA b h ++ [(q, mE cA b e1)])[h.length]? = some (q, mE cA b e1) := by
    rw [List.getElem?_append_right (by rw [wz_len]; exact Nat.le_refl _), wz_len, Nat.sub_self]; rfl
  have hz0 : H1.size ≤ s.heap.size + (cells + 1) := by rw [← hT]; exact Wd.size X
  have hq1 : q < H1.size := (hP1 _ _ hlast).lt
  have hq2 : b ≤ q := hD1.2 _ _ hlast
  have hq3 : q = b + h.length := by
    rcases Nat.lt_or_ge q (b + h.length) with hlt | hge
    · exfalso
      have hk : q - b < h.length := by omega
      obtain ⟨e0, he0⟩ : ∃ e0, h[q - b]? = some e0 := ⟨_, List.getElem?_eq_getElem hk⟩
      have hat : (wz cA b h ++ [(q, mE cA b e1)])[q - b]? = some (b + (q - b), mE cA b e0) := by
        rw [List.getElem?_append_left (by rw [wz_len]; exact hk)]
        exact wz_at he0
      have := hD1.1 _ _ _ _ hat hlast (by show b + (q - b) = q; omega)
      omega
    · omega
  have hz1 : H1.size = H.size + 1 := by omega
  subst hq3
  have hw1 : Wd D cA b s (cells + 1) (h ++ [e1]) H1 locs := by
    refine ⟨by rw [wz_push]; exact hP1, by rw [hz1, hs, e1']; omega, ⟨Nat.le_trans hS.1 hS1.1, fun q h1 h2 => ?_, hS1.2.2⟩, hb, by omega⟩
    rw [hS1.2.1 q (Nat.lt_of_lt_of_le h1 hS.1) h2]
    exact hS.2.1 q h1 h2
  have kk := k3 p l e R s m args below meth c D cA b H1 locs (cells + 1) (slots + esz e1) LS C ⟨r1, r2, by rw [e1']; omega, by rw [e2]; omega⟩ hw1 hl
  rw [e1', e2] at kk
  have g1 : cells + 1 + (h'.length - (h.length + 1)) = cells + (h'.length - h.length) := by omega
  have g2 : slots + esz e1 + (hsz h' - (hsz h + esz e1)) = slots + (hsz h' - hsz h) := by omega
  rw [g1, g2] at kk
  exact kk T hT X
