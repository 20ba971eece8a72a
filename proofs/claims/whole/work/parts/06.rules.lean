theorem Rx_iconst {M : Mi} {d pc : Nat} {ls st : List Value} {h : Hp} {r : Option Value} {h' : Hp} {n : Int} (v : Int32) (hd : decode M.2.1 pc = .ok (.iconst n, 1)) (hv : Int32.ofInt n = v) (K : Rx M d (pc + 1) ls (.int v :: st) h r h') : Rx M d pc ls st h r h' :=
  K.step (fun C _ _ _ k => lv_iconst C.1 C.2.1 hd hv k)
theorem Rx_bipush {M : Mi} {d pc : Nat} {ls st : List Value} {h : Hp} {r : Option Value} {h' : Hp} {n : Int} (v : Int32) (hd : decode M.2.1 pc = .ok (.bipush n, 2)) (hv : (Int8.ofInt n).toInt32 = v) (K : Rx M d (pc + 2) ls (.int v :: st) h r h') : Rx M d pc ls st h r h' :=
  K.step (fun C _ _ _ k => lv_bipush C.1 C.2.1 hd hv k)
theorem Rx_sipush {M : Mi} {d pc : Nat} {ls st : List Value} {h : Hp} {r : Option Value} {h' : Hp} {n : Int} (v : Int32) (hd : decode M.2.1 pc = .ok (.sipush n, 3)) (hv : (Int16.ofInt n).toInt32 = v) (K : Rx M d (pc + 3) ls (.int v :: st) h r h') : Rx M d pc ls st h r h' :=
  K.step (fun C _ _ _ k => lv_sipush C.1 C.2.1 hd hv k)
theorem Rx_lconst {M : Mi} {d pc : Nat} {ls st : List Value} {h : Hp} {r : Option Value} {h' : Hp} {n : Fin 2} (v : Int64) (hd : decode M.2.1 pc = .ok (.lconst n, 1)) (hv : Int64.ofNat (n : Nat) = v) (K : Rx M d (pc + 1) ls (.long v :: st) h r h') : Rx M d pc ls st h r h' :=
  K.step (fun C _ _ _ k => lv_lconst C.1 C.2.1 hd hv k)
theorem Rx_ldc {M : Mi} {d pc : Nat} {ls st : List Value} {h : Hp} {r : Option Value} {h' : Hp} {idx : Nat} {v : Int32} (hd : decode M.2.1 pc = .ok (.ldc idx, 2)) (hc : Cond.constant M.1.cls idx v ∈ gtbl) (K : Rx M d (pc + 2) ls (.int v :: st) h r h') : Rx M d pc ls st h r h' :=
  K.step (fun C _ _ _ k => lv_ldc C.1 C.2.1 C.2.2.2.2.2.2.1 (C.2.2.2.2.2.2.2.1 _ hc) hd k)
theorem Rx_ldcw {M : Mi} {d pc : Nat} {ls st : List Value} {h : Hp} {r : Option Value} {h' : Hp} {idx : Nat} {v : Int32} (hd : decode M.2.1 pc = .ok (.ldc_w idx, 3)) (hc : Cond.constant M.1.cls idx v ∈ gtbl) (K : Rx M d (pc + 3) ls (.int v :: st) h r h') : Rx M d pc ls st h r h' :=
  K.step (fun C _ _ _ k => lv_ldcw C.1 C.2.1 C.2.2.2.2.2.2.1 (C.2.2.2.2.2.2.2.1 _ hc) hd k)
theorem Rx_ldc2 {M : Mi} {d pc : Nat} {ls st : List Value} {h : Hp} {r : Option Value} {h' : Hp} {idx : Nat} {v : Int64} (hd : decode M.2.1 pc = .ok (.ldc2_w idx, 3)) (hc : Cond.constantLong M.1.cls idx v ∈ gtbl) (K : Rx M d (pc + 3) ls (.long v :: st) h r h') : Rx M d pc ls st h r h' :=
  K.step (fun C _ _ _ k => lv_ldc2 C.1 C.2.1 C.2.2.2.2.2.2.1 (C.2.2.2.2.2.2.2.1 _ hc) hd k)
theorem Rx_ldcf {M : Mi} {d pc : Nat} {ls st : List Value} {h : Hp} {r : Option Value} {h' : Hp} {idx : Nat} {v : UInt32} (hd : decode M.2.1 pc = .ok (.ldc idx, 2)) (hc : Cond.constantFloat M.1.cls idx v ∈ gtbl) (K : Rx M d (pc + 2) ls (.float v :: st) h r h') : Rx M d pc ls st h r h' :=
  K.step (fun C _ _ _ k => lv_ldcf C.1 C.2.1 C.2.2.2.2.2.2.1 (C.2.2.2.2.2.2.2.1 _ hc) hd k)
theorem Rx_iload {M : Mi} {d pc : Nat} {ls st : List Value} {h : Hp} {r : Option Value} {h' : Hp} {i : Nat} {x : Int32} (hd : decode M.2.1 pc = .ok (.iload i, 2)) (hi : lat ls i = some (.int x)) (K : Rx M d (pc + 2) ls (.int x :: st) h r h') : Rx M d pc ls st h r h' :=
  K.step (fun C _ _ hl k => lv_iload C.1 C.2.1 hd (hl.2.2 i _ hi rfl) k)
theorem Rx_iload_n {M : Mi} {d pc : Nat} {ls st : List Value} {h : Hp} {r : Option Value} {h' : Hp} {i : Fin 4} {x : Int32} (hd : decode M.2.1 pc = .ok (.iload_n i, 1)) (hi : lat ls i.val = some (.int x)) (K : Rx M d (pc + 1) ls (.int x :: st) h r h') : Rx M d pc ls st h r h' :=
  K.step (fun C _ _ hl k => lv_iload_n C.1 C.2.1 hd rfl (hl.2.2 i.val _ hi rfl) k)
theorem Rx_lload {M : Mi} {d pc : Nat} {ls st : List Value} {h : Hp} {r : Option Value} {h' : Hp} {i : Nat} {x : Int64} (hd : decode M.2.1 pc = .ok (.lload i, 2)) (hi : lat ls i = some (.long x)) (K : Rx M d (pc + 2) ls (.long x :: st) h r h') : Rx M d pc ls st h r h' :=
  K.step (fun C _ _ hl k => lv_lload C.1 C.2.1 hd (hl.2.2 i _ hi rfl) k)
theorem Rx_lload_n {M : Mi} {d pc : Nat} {ls st : List Value} {h : Hp} {r : Option Value} {h' : Hp} {i : Fin 4} {x : Int64} (hd : decode M.2.1 pc = .ok (.lload_n i, 1)) (hi : lat ls i.val = some (.long x)) (K : Rx M d (pc + 1) ls (.long x :: st) h r h') : Rx M d pc ls st h r h' :=
  K.step (fun C _ _ hl k => lv_lload_n C.1 C.2.1 hd rfl (hl.2.2 i.val _ hi rfl) k)
theorem Rx_aload {M : Mi} {d pc : Nat} {ls st : List Value} {h : Hp} {r : Option Value} {h' : Hp} {i : Nat} {x : Nat} (hd : decode M.2.1 pc = .ok (.aload i, 2)) (hi : lat ls i = some (.ref x)) (K : Rx M d (pc + 2) ls (.ref x :: st) h r h') : Rx M d pc ls st h r h' :=
  K.step (fun C _ _ hl k => lv_aload C.1 C.2.1 hd (hl.2.2 i _ hi rfl) k)
theorem Rx_aload_n {M : Mi} {d pc : Nat} {ls st : List Value} {h : Hp} {r : Option Value} {h' : Hp} {i : Fin 4} {x : Nat} (hd : decode M.2.1 pc = .ok (.aload_n i, 1)) (hi : lat ls i.val = some (.ref x)) (K : Rx M d (pc + 1) ls (.ref x :: st) h r h') : Rx M d pc ls st h r h' :=
  K.step (fun C _ _ hl k => lv_aload_n C.1 C.2.1 hd rfl (hl.2.2 i.val _ hi rfl) k)
theorem Rx_fload_n {M : Mi} {d pc : Nat} {ls st : List Value} {h : Hp} {r : Option Value} {h' : Hp} {i : Fin 4} {x : UInt32} (hd : decode M.2.1 pc = .ok (.fload_n i, 1)) (hi : lat ls i.val = some (.float x)) (K : Rx M d (pc + 1) ls (.float x :: st) h r h') : Rx M d pc ls st h r h' :=
  K.step (fun C _ _ hl k => lv_fload_n C.1 C.2.1 hd rfl (hl.2.2 i.val _ hi rfl) k)
theorem Rx_istore {M : Mi} {d pc : Nat} {ls st : List Value} {h : Hp} {r : Option Value} {h' : Hp} {i : Nat} {x : Int32} (ls' : List Value) (hd : decode M.2.1 pc = .ok (.istore i, 2)) (hn : nol ls i = true) (hi : Nat.ble (i + 1) M.2.2.1 = true) (hs : lse ls i (.int x) = ls') (K : Rx M d (pc + 2) ls' st h r h') : Rx M d pc ls (.int x :: st) h r h' := by
  subst hs
  exact K.stepL (fun {_ _ _ _ _ _ _ _ _ _ _ _ b _ _ _ _ _ _} C hl k => lv_istore (nL := M.2.2.1) C.1 C.2.1 hd (LR_has hl) (Nat.le_of_ble_eq_true hi) rfl (fun LS' h' => k LS' (LR_sto1 (b := b) (v := .int x) hn h')))
theorem Rx_istore_n {M : Mi} {d pc : Nat} {ls st : List Value} {h : Hp} {r : Option Value} {h' : Hp} {i : Fin 4} {x : Int32} (ls' : List Value) (hd : decode M.2.1 pc = .ok (.istore_n i, 1)) (hn : nol ls i.val = true) (hi : Nat.ble (i.val + 1) M.2.2.1 = true) (hs : lse ls i.val (.int x) = ls') (K : Rx M d (pc + 1) ls' st h r h') : Rx M d pc ls (.int x :: st) h r h' := by
  subst hs
  exact K.stepL (fun {_ _ _ _ _ _ _ _ _ _ _ _ b _ _ _ _ _ _} C hl k => lv_istore_n (nL := M.2.2.1) C.1 C.2.1 hd rfl (LR_has hl) (Nat.le_of_ble_eq_true hi) rfl (fun LS' h' => k LS' (LR_sto1 (b := b) (v := .int x) hn h')))
theorem Rx_astore {M : Mi} {d pc : Nat} {ls st : List Value} {h : Hp} {r : Option Value} {h' : Hp} {i : Nat} {x : Nat} (ls' : List Value) (hd : decode M.2.1 pc = .ok (.astore i, 2)) (hn : nol ls i = true) (hi : Nat.ble (i + 1) M.2.2.1 = true) (hs : lse ls i (.ref x) = ls') (K : Rx M d (pc + 2) ls' st h r h') : Rx M d pc ls (.ref x :: st) h r h' := by
  subst hs
  exact K.stepL (fun {_ _ _ _ _ _ _ _ _ _ _ _ b _ _ _ _ _ _} C hl k => lv_astore (nL := M.2.2.1) C.1 C.2.1 hd (LR_has hl) (Nat.le_of_ble_eq_true hi) rfl (fun LS' h' => k LS' (LR_sto1 (b := b) (v := .ref x) hn h')))
theorem Rx_astore_n {M : Mi} {d pc : Nat} {ls st : List Value} {h : Hp} {r : Option Value} {h' : Hp} {i : Fin 4} {x : Nat} (ls' : List Value) (hd : decode M.2.1 pc = .ok (.astore_n i, 1)) (hn : nol ls i.val = true) (hi : Nat.ble (i.val + 1) M.2.2.1 = true) (hs : lse ls i.val (.ref x) = ls') (K : Rx M d (pc + 1) ls' st h r h') : Rx M d pc ls (.ref x :: st) h r h' := by
  subst hs
  exact K.stepL (fun {_ _ _ _ _ _ _ _ _ _ _ _ b _ _ _ _ _ _} C hl k => lv_astore_n (nL := M.2.2.1) C.1 C.2.1 hd rfl (LR_has hl) (Nat.le_of_ble_eq_true hi) rfl (fun LS' h' => k LS' (LR_sto1 (b := b) (v := .ref x) hn h')))
theorem Rx_lstore {M : Mi} {d pc : Nat} {ls st : List Value} {h : Hp} {r : Option Value} {h' : Hp} {i : Nat} {x : Int64} (ls' : List Value) (hd : decode M.2.1 pc = .ok (.lstore i, 2)) (hn : nol ls i = true) (hi : Nat.ble (i + 2) M.2.2.1 = true) (hs : lse (lse ls i (.long x)) (i + 1) (.retAddr 0) = ls') (K : Rx M d (pc + 2) ls' st h r h') : Rx M d pc ls (.long x :: st) h r h' := by
  subst hs
  exact K.stepL (fun {_ _ _ _ _ _ _ _ _ _ _ _ b _ _ _ _ _ _} C hl k => lv_lstore (nL := M.2.2.1) C.1 C.2.1 hd (LR_has hl) (Nat.le_of_ble_eq_true hi) rfl (fun LS' h' => k LS' (LR_sto2 (b := b) (v := .long x) hn h')))
theorem Rx_lstore_n {M : Mi} {d pc : Nat} {ls st : List Value} {h : Hp} {r : Option Value} {h' : Hp} {i : Fin 4} {x : Int64} (ls' : List Value) (hd : decode M.2.1 pc = .ok (.lstore_n i, 1)) (hn : nol ls i.val = true) (hi : Nat.ble (i.val + 2) M.2.2.1 = true) (hs : lse (lse ls i.val (.long x)) (i.val + 1) (.retAddr 0) = ls') (K : Rx M d (pc + 1) ls' st h r h') : Rx M d pc ls (.long x :: st) h r h' := by
  subst hs
  exact K.stepL (fun {_ _ _ _ _ _ _ _ _ _ _ _ b _ _ _ _ _ _} C hl k => lv_lstore_n (nL := M.2.2.1) C.1 C.2.1 hd rfl (LR_has hl) (Nat.le_of_ble_eq_true hi) rfl (fun LS' h' => k LS' (LR_sto2 (b := b) (v := .long x) hn h')))
theorem Rx_iinc {M : Mi} {d pc : Nat} {ls st : List Value} {h : Hp} {r : Option Value} {h' : Hp} {i : Nat} {n : Int} {x : Int32} (ls' : List Value) (c : Int32) (hd : decode M.2.1 pc = .ok (.iinc i n, 3)) (hx : lat ls i = some (.int x)) (hc : Int32.ofInt n = c) (hn : nol ls i = true) (hi : Nat.ble (i + 1) M.2.2.1 = true) (hs : lse ls i (.int (x + c)) = ls') (K : Rx M d (pc + 3) ls' st h r h') : Rx M d pc ls st h r h' := by
  subst hs
  exact K.stepL (fun {_ _ _ _ _ _ _ _ _ _ _ _ b _ _ _ _ _ _} C hl k => by
    obtain ⟨j, hj⟩ := List.getElem?_of_mem (LR_mem (b := b) hx rfl)
    exact lv_iinc (nL := M.2.2.1) C.1 C.2.1 hd (LR_has hl) hj (by rw [hc]) (Nat.le_of_ble_eq_true hi) rfl (fun LS' h' => k LS' (LR_sto1 (b := b) (v := .int (x + c)) hn h')))
theorem Rx_iadd {M : Mi} {d pc : Nat} {ls st : List Value} {h : Hp} {r : Option Value} {h' : Hp} {x y : Int32} (hd : decode M.2.1 pc = .ok (.iadd, 1)) (K : Rx M d (pc + 1) ls (.int (x + y) :: st) h r h') : Rx M d pc ls (.int y :: .int x :: st) h r h' :=
  K.step (fun C _ _ hl k => lv_iadd C.1 C.2.1 hd k)
theorem Rx_isub {M : Mi} {d pc : Nat} {ls st : List Value} {h : Hp} {r : Option Value} {h' : Hp} {x y : Int32} (hd : decode M.2.1 pc = .ok (.isub, 1)) (K : Rx M d (pc + 1) ls (.int (x - y) :: st) h r h') : Rx M d pc ls (.int y :: .int x :: st) h r h' :=
  K.step (fun C _ _ hl k => lv_isub C.1 C.2.1 hd k)
theorem Rx_imul {M : Mi} {d pc : Nat} {ls st : List Value} {h : Hp} {r : Option Value} {h' : Hp} {x y : Int32} (hd : decode M.2.1 pc = .ok (.imul, 1)) (K : Rx M d (pc + 1) ls (.int (x * y) :: st) h r h') : Rx M d pc ls (.int y :: .int x :: st) h r h' :=
  K.step (fun C _ _ hl k => lv_imul C.1 C.2.1 hd k)
theorem Rx_iand {M : Mi} {d pc : Nat} {ls st : List Value} {h : Hp} {r : Option Value} {h' : Hp} {x y : Int32} (hd : decode M.2.1 pc = .ok (.iand, 1)) (K : Rx M d (pc + 1) ls (.int (x &&& y) :: st) h r h') : Rx M d pc ls (.int y :: .int x :: st) h r h' :=
  K.step (fun C _ _ hl k => lv_iand C.1 C.2.1 hd k)
theorem Rx_ior {M : Mi} {d pc : Nat} {ls st : List Value} {h : Hp} {r : Option Value} {h' : Hp} {x y : Int32} (hd : decode M.2.1 pc = .ok (.ior, 1)) (K : Rx M d (pc + 1) ls (.int (x ||| y) :: st) h r h') : Rx M d pc ls (.int y :: .int x :: st) h r h' :=
  K.step (fun C _ _ hl k => lv_ior C.1 C.2.1 hd k)
theorem Rx_ixor {M : Mi} {d pc : Nat} {ls st : List Value} {h : Hp} {r : Option Value} {h' : Hp} {x y : Int32} (hd : decode M.2.1 pc = .ok (.ixor, 1)) (K : Rx M d (pc + 1) ls (.int (x ^^^ y) :: st) h r h') : Rx M d pc ls (.int y :: .int x :: st) h r h' :=
  K.step (fun C _ _ hl k => lv_ixor C.1 C.2.1 hd k)
theorem Rx_ishl {M : Mi} {d pc : Nat} {ls st : List Value} {h : Hp} {r : Option Value} {h' : Hp} {x y : Int32} (hd : decode M.2.1 pc = .ok (.ishl, 1)) (K : Rx M d (pc + 1) ls (.int (x <<< (y &&& 31)) :: st) h r h') : Rx M d pc ls (.int y :: .int x :: st) h r h' :=
  K.step (fun C _ _ hl k => lv_ishl C.1 C.2.1 hd k)
theorem Rx_ishr {M : Mi} {d pc : Nat} {ls st : List Value} {h : Hp} {r : Option Value} {h' : Hp} {x y : Int32} (hd : decode M.2.1 pc = .ok (.ishr, 1)) (K : Rx M d (pc + 1) ls (.int (x >>> (y &&& 31)) :: st) h r h') : Rx M d pc ls (.int y :: .int x :: st) h r h' :=
  K.step (fun C _ _ hl k => lv_ishr C.1 C.2.1 hd k)
theorem Rx_iushr {M : Mi} {d pc : Nat} {ls st : List Value} {h : Hp} {r : Option Value} {h' : Hp} {x y : Int32} (hd : decode M.2.1 pc = .ok (.iushr, 1)) (K : Rx M d (pc + 1) ls (.int ((x.toUInt32 >>> (y.toUInt32 &&& Int32.toUInt32 31)).toInt32) :: st) h r h') : Rx M d pc ls (.int y :: .int x :: st) h r h' :=
  K.step (fun C _ _ hl k => lv_iushr C.1 C.2.1 hd rfl k)
theorem Rx_ladd {M : Mi} {d pc : Nat} {ls st : List Value} {h : Hp} {r : Option Value} {h' : Hp} {x y : Int64} (hd : decode M.2.1 pc = .ok (.ladd, 1)) (K : Rx M d (pc + 1) ls (.long (x + y) :: st) h r h') : Rx M d pc ls (.long y :: .long x :: st) h r h' :=
  K.step (fun C _ _ hl k => lv_ladd C.1 C.2.1 hd k)
theorem Rx_lsub {M : Mi} {d pc : Nat} {ls st : List Value} {h : Hp} {r : Option Value} {h' : Hp} {x y : Int64} (hd : decode M.2.1 pc = .ok (.lsub, 1)) (K : Rx M d (pc + 1) ls (.long (x - y) :: st) h r h') : Rx M d pc ls (.long y :: .long x :: st) h r h' :=
  K.step (fun C _ _ hl k => lv_lsub C.1 C.2.1 hd k)
theorem Rx_lmul {M : Mi} {d pc : Nat} {ls st : List Value} {h : Hp} {r : Option Value} {h' : Hp} {x y : Int64} (hd : decode M.2.1 pc = .ok (.lmul, 1)) (K : Rx M d (pc + 1) ls (.long (x * y) :: st) h r h') : Rx M d pc ls (.long y :: .long x :: st) h r h' :=
  K.step (fun C _ _ hl k => lv_lmul C.1 C.2.1 hd k)
theorem Rx_land {M : Mi} {d pc : Nat} {ls st : List Value} {h : Hp} {r : Option Value} {h' : Hp} {x y : Int64} (hd : decode M.2.1 pc = .ok (.land, 1)) (K : Rx M d (pc + 1) ls (.long (x &&& y) :: st) h r h') : Rx M d pc ls (.long y :: .long x :: st) h r h' :=
  K.step (fun C _ _ hl k => lv_land C.1 C.2.1 hd k)
theorem Rx_lor {M : Mi} {d pc : Nat} {ls st : List Value} {h : Hp} {r : Option Value} {h' : Hp} {x y : Int64} (hd : decode M.2.1 pc = .ok (.lor, 1)) (K : Rx M d (pc + 1) ls (.long (x ||| y) :: st) h r h') : Rx M d pc ls (.long y :: .long x :: st) h r h' :=
  K.step (fun C _ _ hl k => lv_lor C.1 C.2.1 hd k)
theorem Rx_lxor {M : Mi} {d pc : Nat} {ls st : List Value} {h : Hp} {r : Option Value} {h' : Hp} {x y : Int64} (hd : decode M.2.1 pc = .ok (.lxor, 1)) (K : Rx M d (pc + 1) ls (.long (x ^^^ y) :: st) h r h') : Rx M d pc ls (.long y :: .long x :: st) h r h' :=
  K.step (fun C _ _ hl k => lv_lxor C.1 C.2.1 hd k)
theorem Rx_lushr {M : Mi} {d pc : Nat} {ls st : List Value} {h : Hp} {r : Option Value} {h' : Hp} {x : Int64} {y : Int32} (hd : decode M.2.1 pc = .ok (.lushr, 1)) (K : Rx M d (pc + 1) ls (.long ((x.toUInt64 >>> (y.toInt64.toUInt64 &&& Int64.toUInt64 63)).toInt64) :: st) h r h') : Rx M d pc ls (.int y :: .long x :: st) h r h' :=
  K.step (fun C _ _ hl k => lv_lushr C.1 C.2.1 hd rfl k)
theorem Rx_lcmp {M : Mi} {d pc : Nat} {ls st : List Value} {h : Hp} {r : Option Value} {h' : Hp} {x y : Int64} (hd : decode M.2.1 pc = .ok (.lcmp, 1)) (K : Rx M d (pc + 1) ls (.int (lg_cmp x y) :: st) h r h') : Rx M d pc ls (.long y :: .long x :: st) h r h' :=
  K.step (fun C _ _ hl k => W.lcmp C.1 C.2.1 hd k)
theorem Rx_ineg {M : Mi} {d pc : Nat} {ls st : List Value} {h : Hp} {r : Option Value} {h' : Hp} {x : Int32} (hd : decode M.2.1 pc = .ok (.ineg, 1)) (K : Rx M d (pc + 1) ls (.int (-x) :: st) h r h') : Rx M d pc ls (.int x :: st) h r h' :=
  K.step (fun C _ _ hl k => lv_ineg C.1 C.2.1 hd k)
theorem Rx_i2l {M : Mi} {d pc : Nat} {ls st : List Value} {h : Hp} {r : Option Value} {h' : Hp} {x : Int32} (hd : decode M.2.1 pc = .ok (.i2l, 1)) (K : Rx M d (pc + 1) ls (.long x.toInt64 :: st) h r h') : Rx M d pc ls (.int x :: st) h r h' :=
  K.step (fun C _ _ hl k => lv_i2l C.1 C.2.1 hd rfl k)
theorem Rx_l2i {M : Mi} {d pc : Nat} {ls st : List Value} {h : Hp} {r : Option Value} {h' : Hp} {x : Int64} (hd : decode M.2.1 pc = .ok (.l2i, 1)) (K : Rx M d (pc + 1) ls (.int x.toInt32 :: st) h r h') : Rx M d pc ls (.long x :: st) h r h' :=
  K.step (fun C _ _ hl k => lv_l2i C.1 C.2.1 hd rfl k)
theorem Rx_i2f {M : Mi} {d pc : Nat} {ls st : List Value} {h : Hp} {r : Option Value} {h' : Hp} {x : Int32} (hd : decode M.2.1 pc = .ok (.i2f, 1)) (K : Rx M d (pc + 1) ls (.float (FP.i2f x) :: st) h r h') : Rx M d pc ls (.int x :: st) h r h' :=
  K.step (fun C _ _ hl k => lv_i2f C.1 C.2.1 hd k)
theorem Rx_fcmp {M : Mi} {d pc : Nat} {ls st : List Value} {h : Hp} {r : Option Value} {h' : Hp} {x y : UInt32} {op : CmpOp} (hd : decode M.2.1 pc = .ok (.fcmp op, 1)) (K : Rx M d (pc + 1) ls (.int (Op.cmpValue (FP.fcmp x y) op) :: st) h r h') : Rx M d pc ls (.float y :: .float x :: st) h r h' :=
  K.step (fun C _ _ hl k => lv_fcmp C.1 C.2.1 hd k)
theorem Rx_idiv {M : Mi} {d pc : Nat} {ls st : List Value} {h : Hp} {r : Option Value} {h' : Hp} {x y : Int32} (hd : decode M.2.1 pc = .ok (.idiv, 1)) (hy : ¬ y = 0) (K : Rx M d (pc + 1) ls (.int (x / y) :: st) h r h') : Rx M d pc ls (.int y :: .int x :: st) h r h' :=
  K.step (fun C _ _ _ k => lv_idiv C.1 C.2.1 hd hy k)
theorem Rx_irem {M : Mi} {d pc : Nat} {ls st : List Value} {h : Hp} {r : Option Value} {h' : Hp} {x y : Int32} (hd : decode M.2.1 pc = .ok (.irem, 1)) (hy : ¬ y = 0) (K : Rx M d (pc + 1) ls (.int (x - x / y * y) :: st) h r h') : Rx M d pc ls (.int y :: .int x :: st) h r h' :=
  K.step (fun C _ _ _ k => lv_irem C.1 C.2.1 hd hy k)
theorem Rx_lrem {M : Mi} {d pc : Nat} {ls st : List Value} {h : Hp} {r : Option Value} {h' : Hp} {x y : Int64} (hd : decode M.2.1 pc = .ok (.lrem, 1)) (hy : ¬ y = 0) (K : Rx M d (pc + 1) ls (.long (x - x / y * y) :: st) h r h') : Rx M d pc ls (.long y :: .long x :: st) h r h' :=
  K.step (fun C _ _ _ k => lv_lrem C.1 C.2.1 hd hy k)
theorem Rx_ldiv {M : Mi} {d pc : Nat} {ls st : List Value} {h : Hp} {r : Option Value} {h' : Hp} {x y : Int64} (hd : decode M.2.1 pc = .ok (.ldiv, 1)) (hy : ¬ y = 0) (K : Rx M d (pc + 1) ls (.long (x / y) :: st) h r h') : Rx M d pc ls (.long y :: .long x :: st) h r h' :=
  K.step (fun C _ _ _ k => lv_ldiv C.1 C.2.1 hd hy k)
theorem Rx_fdiv {M : Mi} {d pc : Nat} {ls st : List Value} {h : Hp} {r : Option Value} {h' : Hp} {x y : UInt32} (hd : decode M.2.1 pc = .ok (.fdiv, 1)) (hy : vf_n32 (FP.fdiv x y)) (K : Rx M d (pc + 1) ls (.float (FP.fdiv x y) :: st) h r h') : Rx M d pc ls (.float y :: .float x :: st) h r h' :=
  K.step (fun C _ _ _ k => lv_fdiv C.1 C.2.1 hd hy k)
theorem Rx_dup {M : Mi} {d pc : Nat} {ls st : List Value} {h : Hp} {r : Option Value} {h' : Hp} {v : Value} (hd : decode M.2.1 pc = .ok (.dup, 1)) (hv : v.category = 1) (K : Rx M d (pc + 1) ls (v :: v :: st) h r h') : Rx M d pc ls (v :: st) h r h' :=
  K.step (fun {_ _ _ _ _ _ _ _ _ _ _ _ b _ _ _ _ _ _} C _ _ _ k => lv_dup C.1 C.2.1 hd ((mp_cat b v).trans hv) k)
theorem Rx_pop {M : Mi} {d pc : Nat} {ls st : List Value} {h : Hp} {r : Option Value} {h' : Hp} {v : Value} (hd : decode M.2.1 pc = .ok (.pop, 1)) (hv : v.category = 1) (K : Rx M d (pc + 1) ls st h r h') : Rx M d pc ls (v :: st) h r h' :=
  K.step (fun {_ _ _ _ _ _ _ _ _ _ _ _ b _ _ _ _ _ _} C _ _ _ k => lv_pop C.1 C.2.1 hd ((mp_cat b v).trans hv) k)
theorem Rx_dup2 {M : Mi} {d pc : Nat} {ls st : List Value} {h : Hp} {r : Option Value} {h' : Hp} {v w : Value} (hd : decode M.2.1 pc = .ok (.dup2, 1)) (hv : v.category = 1) (hw : w.category = 1) (K : Rx M d (pc + 1) ls (v :: w :: v :: w :: st) h r h') : Rx M d pc ls (v :: w :: st) h r h' :=
  K.step (fun {_ _ _ _ _ _ _ _ _ _ _ _ b _ _ _ _ _ _} C _ _ _ k => lv_dup2_11 C.1 C.2.1 hd ((mp_cat b v).trans hv) ((mp_cat b w).trans hw) k)
theorem Rx_dup_x1 {M : Mi} {d pc : Nat} {ls st : List Value} {h : Hp} {r : Option Value} {h' : Hp} {v w : Value} (hd : decode M.2.1 pc = .ok (.dup_x1, 1)) (hv : v.category = 1) (hw : w.category = 1) (K : Rx M d (pc + 1) ls (v :: w :: v :: st) h r h') : Rx M d pc ls (v :: w :: st) h r h' :=
  K.step (fun {_ _ _ _ _ _ _ _ _ _ _ _ b _ _ _ _ _ _} C _ _ _ k => lv_dup_x1 C.1 C.2.1 hd ((mp_cat b v).trans hv) ((mp_cat b w).trans hw) k)
theorem Rx_goto {M : Mi} {d pc : Nat} {ls st : List Value} {h : Hp} {r : Option Value} {h' : Hp} {off : Int} (tgt : Nat) (hd : decode M.2.1 pc = .ok (.goto off, 3)) (ht : (pc : Int) + off = (tgt : Int)) (K : Rx M d tgt ls st h r h') : Rx M d pc ls st h r h' :=
  K.step (fun C _ _ _ k => lv_goto C.1 C.2.1 hd ht k)
theorem Rx_icmp_eq_t {M : Mi} {d pc : Nat} {ls st : List Value} {h : Hp} {r : Option Value} {h' : Hp} {x y : Int32} {off : Int} (tgt : Nat) (hd : decode M.2.1 pc = .ok (.if_icmp .eq off, 3)) (ht : (pc : Int) + off = (tgt : Int)) (hc : x = y) (K : Rx M d tgt ls st h r h') : Rx M d pc ls (.int y :: .int x :: st) h r h' :=
  K.step (fun C _ _ _ k => lv_icmp_eq C.1 C.2.1 hd ht (fun _ => k) (fun z => absurd hc z))
theorem Rx_icmp_eq_f {M : Mi} {d pc : Nat} {ls st : List Value} {h : Hp} {r : Option Value} {h' : Hp} {x y : Int32} {off : Int} (tgt : Nat) (hd : decode M.2.1 pc = .ok (.if_icmp .eq off, 3)) (ht : (pc : Int) + off = (tgt : Int)) (hc : ¬ x = y) (K : Rx M d (pc + 3) ls st h r h') : Rx M d pc ls (.int y :: .int x :: st) h r h' :=
  K.step (fun C _ _ _ k => lv_icmp_eq C.1 C.2.1 hd ht (fun z => absurd z hc) (fun _ => k))
theorem Rx_if_eq_t {M : Mi} {d pc : Nat} {ls st : List Value} {h : Hp} {r : Option Value} {h' : Hp} {x : Int32} {off : Int} (tgt : Nat) (hd : decode M.2.1 pc = .ok (.ifCond .eq off, 3)) (ht : (pc : Int) + off = (tgt : Int)) (hc : x = 0) (K : Rx M d tgt ls st h r h') : Rx M d pc ls (.int x :: st) h r h' :=
  K.step (fun C _ _ _ k => lv_if_eq C.1 C.2.1 hd ht (fun _ => k) (fun z => absurd hc z))
theorem Rx_if_eq_f {M : Mi} {d pc : Nat} {ls st : List Value} {h : Hp} {r : Option Value} {h' : Hp} {x : Int32} {off : Int} (tgt : Nat) (hd : decode M.2.1 pc = .ok (.ifCond .eq off, 3)) (ht : (pc : Int) + off = (tgt : Int)) (hc : ¬ x = 0) (K : Rx M d (pc + 3) ls st h r h') : Rx M d pc ls (.int x :: st) h r h' :=
  K.step (fun C _ _ _ k => lv_if_eq C.1 C.2.1 hd ht (fun z => absurd z hc) (fun _ => k))
theorem Rx_icmp_ne_t {M : Mi} {d pc : Nat} {ls st : List Value} {h : Hp} {r : Option Value} {h' : Hp} {x y : Int32} {off : Int} (tgt : Nat) (hd : decode M.2.1 pc = .ok (.if_icmp .ne off, 3)) (ht : (pc : Int) + off = (tgt : Int)) (hc : ¬ x = y) (K : Rx M d tgt ls st h r h') : Rx M d pc ls (.int y :: .int x :: st) h r h' :=
  K.step (fun C _ _ _ k => lv_icmp_ne C.1 C.2.1 hd ht (fun _ => k) (fun z => absurd z hc))
theorem Rx_icmp_ne_f {M : Mi} {d pc : Nat} {ls st : List Value} {h : Hp} {r : Option Value} {h' : Hp} {x y : Int32} {off : Int} (tgt : Nat) (hd : decode M.2.1 pc = .ok (.if_icmp .ne off, 3)) (ht : (pc : Int) + off = (tgt : Int)) (hc : x = y) (K : Rx M d (pc + 3) ls st h r h') : Rx M d pc ls (.int y :: .int x :: st) h r h' :=
  K.step (fun C _ _ _ k => lv_icmp_ne C.1 C.2.1 hd ht (fun z => absurd hc z) (fun _ => k))
theorem Rx_if_ne_t {M : Mi} {d pc : Nat} {ls st : List Value} {h : Hp} {r : Option Value} {h' : Hp} {x : Int32} {off : Int} (tgt : Nat) (hd : decode M.2.1 pc = .ok (.ifCond .ne off, 3)) (ht : (pc : Int) + off = (tgt : Int)) (hc : ¬ x = 0) (K : Rx M d tgt ls st h r h') : Rx M d pc ls (.int x :: st) h r h' :=
  K.step (fun C _ _ _ k => lv_if_ne C.1 C.2.1 hd ht (fun _ => k) (fun z => absurd z hc))
theorem Rx_if_ne_f {M : Mi} {d pc : Nat} {ls st : List Value} {h : Hp} {r : Option Value} {h' : Hp} {x : Int32} {off : Int} (tgt : Nat) (hd : decode M.2.1 pc = .ok (.ifCond .ne off, 3)) (ht : (pc : Int) + off = (tgt : Int)) (hc : x = 0) (K : Rx M d (pc + 3) ls st h r h') : Rx M d pc ls (.int x :: st) h r h' :=
  K.step (fun C _ _ _ k => lv_if_ne C.1 C.2.1 hd ht (fun z => absurd hc z) (fun _ => k))
theorem Rx_icmp_lt_t {M : Mi} {d pc : Nat} {ls st : List Value} {h : Hp} {r : Option Value} {h' : Hp} {x y : Int32} {off : Int} (tgt : Nat) (hd : decode M.2.1 pc = .ok (.if_icmp .lt off, 3)) (ht : (pc : Int) + off = (tgt : Int)) (hc : x < y) (K : Rx M d tgt ls st h r h') : Rx M d pc ls (.int y :: .int x :: st) h r h' :=
  K.step (fun C _ _ _ k => lv_icmp_lt C.1 C.2.1 hd ht (fun _ => k) (fun z => absurd hc z))
theorem Rx_icmp_lt_f {M : Mi} {d pc : Nat} {ls st : List Value} {h : Hp} {r : Option Value} {h' : Hp} {x y : Int32} {off : Int} (tgt : Nat) (hd : decode M.2.1 pc = .ok (.if_icmp .lt off, 3)) (ht : (pc : Int) + off = (tgt : Int)) (hc : ¬ x < y) (K : Rx M d (pc + 3) ls st h r h') : Rx M d pc ls (.int y :: .int x :: st) h r h' :=
  K.step (fun C _ _ _ k => lv_icmp_lt C.1 C.2.1 hd ht (fun z => absurd z hc) (fun _ => k))
theorem Rx_if_lt_t {M : Mi} {d pc : Nat} {ls st : List Value} {h : Hp} {r : Option Value} {h' : Hp} {x : Int32} {off : Int} (tgt : Nat) (hd : decode M.2.1 pc = .ok (.ifCond .lt off, 3)) (ht : (pc : Int) + off = (tgt : Int)) (hc : x < 0) (K : Rx M d tgt ls st h r h') : Rx M d pc ls (.int x :: st) h r h' :=
  K.step (fun C _ _ _ k => lv_if_lt C.1 C.2.1 hd ht (fun _ => k) (fun z => absurd hc z))
theorem Rx_if_lt_f {M : Mi} {d pc : Nat} {ls st : List Value} {h : Hp} {r : Option Value} {h' : Hp} {x : Int32} {off : Int} (tgt : Nat) (hd : decode M.2.1 pc = .ok (.ifCond .lt off, 3)) (ht : (pc : Int) + off = (tgt : Int)) (hc : ¬ x < 0) (K : Rx M d (pc + 3) ls st h r h') : Rx M d pc ls (.int x :: st) h r h' :=
  K.step (fun C _ _ _ k => lv_if_lt C.1 C.2.1 hd ht (fun z => absurd z hc) (fun _ => k))
theorem Rx_icmp_ge_t {M : Mi} {d pc : Nat} {ls st : List Value} {h : Hp} {r : Option Value} {h' : Hp} {x y : Int32} {off : Int} (tgt : Nat) (hd : decode M.2.1 pc = .ok (.if_icmp .ge off, 3)) (ht : (pc : Int) + off = (tgt : Int)) (hc : y ≤ x) (K : Rx M d tgt ls st h r h') : Rx M d pc ls (.int y :: .int x :: st) h r h' :=
  K.step (fun C _ _ _ k => lv_icmp_ge C.1 C.2.1 hd ht (fun _ => k) (fun z => absurd hc z))
theorem Rx_icmp_ge_f {M : Mi} {d pc : Nat} {ls st : List Value} {h : Hp} {r : Option Value} {h' : Hp} {x y : Int32} {off : Int} (tgt : Nat) (hd : decode M.2.1 pc = .ok (.if_icmp .ge off, 3)) (ht : (pc : Int) + off = (tgt : Int)) (hc : ¬ y ≤ x) (K : Rx M d (pc + 3) ls st h r h') : Rx M d pc ls (.int y :: .int x :: st) h r h' :=
  K.step (fun C _ _ _ k => lv_icmp_ge C.1 C.2.1 hd ht (fun z => absurd z hc) (fun _ => k))
theorem Rx_if_ge_t {M : Mi} {d pc : Nat} {ls st : List Value} {h : Hp} {r : Option Value} {h' : Hp} {x : Int32} {off : Int} (tgt : Nat) (hd : decode M.2.1 pc = .ok (.ifCond .ge off, 3)) (ht : (pc : Int) + off = (tgt : Int)) (hc : 0 ≤ x) (K : Rx M d tgt ls st h r h') : Rx M d pc ls (.int x :: st) h r h' :=
  K.step (fun C _ _ _ k => lv_if_ge C.1 C.2.1 hd ht (fun _ => k) (fun z => absurd hc z))
theorem Rx_if_ge_f {M : Mi} {d pc : Nat} {ls st : List Value} {h : Hp} {r : Option Value} {h' : Hp} {x : Int32} {off : Int} (tgt : Nat) (hd : decode M.2.1 pc = .ok (.ifCond .ge off, 3)) (ht : (pc : Int) + off = (tgt : Int)) (hc : ¬ 0 ≤ x) (K : Rx M d (pc + 3) ls st h r h') : Rx M d pc ls (.int x :: st) h r h' :=
  K.step (fun C _ _ _ k => lv_if_ge C.1 C.2.1 hd ht (fun z => absurd z hc) (fun _ => k))
theorem Rx_icmp_gt_t {M : Mi} {d pc : Nat} {ls st : List Value} {h : Hp} {r : Option Value} {h' : Hp} {x y : Int32} {off : Int} (tgt : Nat) (hd : decode M.2.1 pc = .ok (.if_icmp .gt off, 3)) (ht : (pc : Int) + off = (tgt : Int)) (hc : y < x) (K : Rx M d tgt ls st h r h') : Rx M d pc ls (.int y :: .int x :: st) h r h' :=
  K.step (fun C _ _ _ k => lv_icmp_gt C.1 C.2.1 hd ht (fun _ => k) (fun z => absurd hc z))
theorem Rx_icmp_gt_f {M : Mi} {d pc : Nat} {ls st : List Value} {h : Hp} {r : Option Value} {h' : Hp} {x y : Int32} {off : Int} (tgt : Nat) (hd : decode M.2.1 pc = .ok (.if_icmp .gt off, 3)) (ht : (pc : Int) + off = (tgt : Int)) (hc : ¬ y < x) (K : Rx M d (pc + 3) ls st h r h') : Rx M d pc ls (.int y :: .int x :: st) h r h' :=
  K.step (fun C _ _ _ k => lv_icmp_gt C.1 C.2.1 hd ht (fun z => absurd z hc) (fun _ => k))
theorem Rx_if_gt_t {M : Mi} {d pc : Nat} {ls st : List Value} {h : Hp} {r : Option Value} {h' : Hp} {x : Int32} {off : Int} (tgt : Nat) (hd : decode M.2.1 pc = .ok (.ifCond .gt off, 3)) (ht : (pc : Int) + off = (tgt : Int)) (hc : 0 < x) (K : Rx M d tgt ls st h r h') : Rx M d pc ls (.int x :: st) h r h' :=
  K.step (fun C _ _ _ k => lv_if_gt C.1 C.2.1 hd ht (fun _ => k) (fun z => absurd hc z))
theorem Rx_if_gt_f {M : Mi} {d pc : Nat} {ls st : List Value} {h : Hp} {r : Option Value} {h' : Hp} {x : Int32} {off : Int} (tgt : Nat) (hd : decode M.2.1 pc = .ok (.ifCond .gt off, 3)) (ht : (pc : Int) + off = (tgt : Int)) (hc : ¬ 0 < x) (K : Rx M d (pc + 3) ls st h r h') : Rx M d pc ls (.int x :: st) h r h' :=
  K.step (fun C _ _ _ k => lv_if_gt C.1 C.2.1 hd ht (fun z => absurd z hc) (fun _ => k))
theorem Rx_icmp_le_t {M : Mi} {d pc : Nat} {ls st : List Value} {h : Hp} {r : Option Value} {h' : Hp} {x y : Int32} {off : Int} (tgt : Nat) (hd : decode M.2.1 pc = .ok (.if_icmp .le off, 3)) (ht : (pc : Int) + off = (tgt : Int)) (hc : x ≤ y) (K : Rx M d tgt ls st h r h') : Rx M d pc ls (.int y :: .int x :: st) h r h' :=
  K.step (fun C _ _ _ k => lv_icmp_le C.1 C.2.1 hd ht (fun _ => k) (fun z => absurd hc z))
theorem Rx_icmp_le_f {M : Mi} {d pc : Nat} {ls st : List Value} {h : Hp} {r : Option Value} {h' : Hp} {x y : Int32} {off : Int} (tgt : Nat) (hd : decode M.2.1 pc = .ok (.if_icmp .le off, 3)) (ht : (pc : Int) + off = (tgt : Int)) (hc : ¬ x ≤ y) (K : Rx M d (pc + 3) ls st h r h') : Rx M d pc ls (.int y :: .int x :: st) h r h' :=
  K.step (fun C _ _ _ k => lv_icmp_le C.1 C.2.1 hd ht (fun z => absurd z hc) (fun _ => k))
theorem Rx_if_le_t {M : Mi} {d pc : Nat} {ls st : List Value} {h : Hp} {r : Option Value} {h' : Hp} {x : Int32} {off : Int} (tgt : Nat) (hd : decode M.2.1 pc = .ok (.ifCond .le off, 3)) (ht : (pc : Int) + off = (tgt : Int)) (hc : x ≤ 0) (K : Rx M d tgt ls st h r h') : Rx M d pc ls (.int x :: st) h r h' :=
  K.step (fun C _ _ _ k => lv_if_le C.1 C.2.1 hd ht (fun _ => k) (fun z => absurd hc z))
theorem Rx_if_le_f {M : Mi} {d pc : Nat} {ls st : List Value} {h : Hp} {r : Option Value} {h' : Hp} {x : Int32} {off : Int} (tgt : Nat) (hd : decode M.2.1 pc = .ok (.ifCond .le off, 3)) (ht : (pc : Int) + off = (tgt : Int)) (hc : ¬ x ≤ 0) (K : Rx M d (pc + 3) ls st h r h') : Rx M d pc ls (.int x :: st) h r h' :=
  K.step (fun C _ _ _ k => lv_if_le C.1 C.2.1 hd ht (fun z => absurd z hc) (fun _ => k))
theorem Rx_ifnull {M : Mi} {d pc : Nat} {ls st : List Value} {h : Hp} {r : Option Value} {h' : Hp} {a : Nat} {off : Int} (hd : decode M.2.1 pc = .ok (.ifnull off, 3)) (K : Rx M d (pc + 3) ls st h r h') : Rx M d pc ls (.ref a :: st) h r h' :=
  K.step (fun C _ _ _ k => lv_ifnull C.1 C.2.1 hd k)
