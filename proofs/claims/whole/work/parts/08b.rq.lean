/-! the judgement with a postcondition: from here the method returns some r and heap h' with Q r h' -/
def Rq (M : Mi) (d pc : Nat) (ls st : List Value) (h : Hp) (Q : Option Value → Hp → Prop) : Prop := ∃ r h', Q r h' ∧ Rx M d pc ls st h r h'
def Mq (M : Mi) (d : Nat) (as : List Value) (h : Hp) (Q : Option Value → Hp → Prop) : Prop := ∃ r h', Q r h' ∧ Mx M d as h r h'
theorem Mq_of {M : Mi} {d : Nat} {as : List Value} {h : Hp} {Q : Option Value → Hp → Prop} (ls : List Value) (hp : plainName M.1.cls = true) (hen : Nat.ble (ent as).length M.2.2.1 = true) (hls : pad M.2.2.1 (ent as) = ls) (K : Rq M d 0 ls [] h Q) : Mq M d as h Q := by
  obtain ⟨r, h', q, K⟩ := K
  exact ⟨r, h', q, Mx_of ls hp hen hls K⟩
theorem Mq.mono {M : Mi} {d : Nat} {as : List Value} {h : Hp} {Q Q' : Option Value → Hp → Prop} (K : Mq M d as h Q) (hQ : ∀ r h', Q r h' → Q' r h') : Mq M d as h Q' := by
  obtain ⟨r, h', q, K⟩ := K
  exact ⟨r, h', hQ r h' q, K⟩
theorem Rq.mono {M : Mi} {d pc : Nat} {ls st : List Value} {h : Hp} {Q Q' : Option Value → Hp → Prop} (K : Rq M d pc ls st h Q) (hQ : ∀ r h', Q r h' → Q' r h') : Rq M d pc ls st h Q' := by
  obtain ⟨r, h', q, K⟩ := K
  exact ⟨r, h', hQ r h' q, K⟩
theorem Rx.q {M : Mi} {d pc : Nat} {ls st : List Value} {h : Hp} {r : Option Value} {h' : Hp} {Q : Option Value → Hp → Prop} (K : Rx M d pc ls st h r h') (q : Q r h') : Rq M d pc ls st h Q := ⟨r, h', q, K⟩
theorem Mx.q {M : Mi} {d : Nat} {as : List Value} {h : Hp} {r : Option Value} {h' : Hp} {Q : Option Value → Hp → Prop} (K : Mx M d as h r h') (q : Q r h') : Mq M d as h Q := ⟨r, h', q, K⟩
theorem Rq_iconst {Q : Option Value → Hp → Prop} {M : Mi} {d pc : Nat} {ls st : List Value} {h : Hp} {n : Int} (v : Int32) (hd : decode M.2.1 pc = .ok (.iconst n, 1)) (hv : Int32.ofInt n = v) (K : Rq M d (pc + 1) ls (.int v :: st) h Q) : Rq M d pc ls st h Q := by
  obtain ⟨r, h', q, K⟩ := K
  exact ⟨r, h', q, Rx_iconst v hd hv K⟩
theorem Rq_bipush {Q : Option Value → Hp → Prop} {M : Mi} {d pc : Nat} {ls st : List Value} {h : Hp} {n : Int} (v : Int32) (hd : decode M.2.1 pc = .ok (.bipush n, 2)) (hv : (Int8.ofInt n).toInt32 = v) (K : Rq M d (pc + 2) ls (.int v :: st) h Q) : Rq M d pc ls st h Q := by
  obtain ⟨r, h', q, K⟩ := K
  exact ⟨r, h', q, Rx_bipush v hd hv K⟩
theorem Rq_sipush {Q : Option Value → Hp → Prop} {M : Mi} {d pc : Nat} {ls st : List Value} {h : Hp} {n : Int} (v : Int32) (hd : decode M.2.1 pc = .ok (.sipush n, 3)) (hv : (Int16.ofInt n).toInt32 = v) (K : Rq M d (pc + 3) ls (.int v :: st) h Q) : Rq M d pc ls st h Q := by
  obtain ⟨r, h', q, K⟩ := K
  exact ⟨r, h', q, Rx_sipush v hd hv K⟩
theorem Rq_lconst {Q : Option Value → Hp → Prop} {M : Mi} {d pc : Nat} {ls st : List Value} {h : Hp} {n : Fin 2} (v : Int64) (hd : decode M.2.1 pc = .ok (.lconst n, 1)) (hv : Int64.ofNat (n : Nat) = v) (K : Rq M d (pc + 1) ls (.long v :: st) h Q) : Rq M d pc ls st h Q := by
  obtain ⟨r, h', q, K⟩ := K
  exact ⟨r, h', q, Rx_lconst v hd hv K⟩
theorem Rq_ldc {Q : Option Value → Hp → Prop} {M : Mi} {d pc : Nat} {ls st : List Value} {h : Hp} {idx : Nat} {v : Int32} (hd : decode M.2.1 pc = .ok (.ldc idx, 2)) (hc : Cond.constant M.1.cls idx v ∈ gtbl) (K : Rq M d (pc + 2) ls (.int v :: st) h Q) : Rq M d pc ls st h Q := by
  obtain ⟨r, h', q, K⟩ := K
  exact ⟨r, h', q, Rx_ldc hd hc K⟩
theorem Rq_ldcw {Q : Option Value → Hp → Prop} {M : Mi} {d pc : Nat} {ls st : List Value} {h : Hp} {idx : Nat} {v : Int32} (hd : decode M.2.1 pc = .ok (.ldc_w idx, 3)) (hc : Cond.constant M.1.cls idx v ∈ gtbl) (K : Rq M d (pc + 3) ls (.int v :: st) h Q) : Rq M d pc ls st h Q := by
  obtain ⟨r, h', q, K⟩ := K
  exact ⟨r, h', q, Rx_ldcw hd hc K⟩
theorem Rq_ldc2 {Q : Option Value → Hp → Prop} {M : Mi} {d pc : Nat} {ls st : List Value} {h : Hp} {idx : Nat} {v : Int64} (hd : decode M.2.1 pc = .ok (.ldc2_w idx, 3)) (hc : Cond.constantLong M.1.cls idx v ∈ gtbl) (K : Rq M d (pc + 3) ls (.long v :: st) h Q) : Rq M d pc ls st h Q := by
  obtain ⟨r, h', q, K⟩ := K
  exact ⟨r, h', q, Rx_ldc2 hd hc K⟩
theorem Rq_ldcf {Q : Option Value → Hp → Prop} {M : Mi} {d pc : Nat} {ls st : List Value} {h : Hp} {idx : Nat} {v : UInt32} (hd : decode M.2.1 pc = .ok (.ldc idx, 2)) (hc : Cond.constantFloat M.1.cls idx v ∈ gtbl) (K : Rq M d (pc + 2) ls (.float v :: st) h Q) : Rq M d pc ls st h Q := by
  obtain ⟨r, h', q, K⟩ := K
  exact ⟨r, h', q, Rx_ldcf hd hc K⟩
theorem Rq_iload {Q : Option Value → Hp → Prop} {M : Mi} {d pc : Nat} {ls st : List Value} {h : Hp} {i : Nat} {x : Int32} (hd : decode M.2.1 pc = .ok (.iload i, 2)) (hi : lat ls i = some (.int x)) (K : Rq M d (pc + 2) ls (.int x :: st) h Q) : Rq M d pc ls st h Q := by
  obtain ⟨r, h', q, K⟩ := K
  exact ⟨r, h', q, Rx_iload hd hi K⟩
theorem Rq_iload_n {Q : Option Value → Hp → Prop} {M : Mi} {d pc : Nat} {ls st : List Value} {h : Hp} {i : Fin 4} {x : Int32} (hd : decode M.2.1 pc = .ok (.iload_n i, 1)) (hi : lat ls i.val = some (.int x)) (K : Rq M d (pc + 1) ls (.int x :: st) h Q) : Rq M d pc ls st h Q := by
  obtain ⟨r, h', q, K⟩ := K
  exact ⟨r, h', q, Rx_iload_n hd hi K⟩
theorem Rq_lload {Q : Option Value → Hp → Prop} {M : Mi} {d pc : Nat} {ls st : List Value} {h : Hp} {i : Nat} {x : Int64} (hd : decode M.2.1 pc = .ok (.lload i, 2)) (hi : lat ls i = some (.long x)) (K : Rq M d (pc + 2) ls (.long x :: st) h Q) : Rq M d pc ls st h Q := by
  obtain ⟨r, h', q, K⟩ := K
  exact ⟨r, h', q, Rx_lload hd hi K⟩
theorem Rq_lload_n {Q : Option Value → Hp → Prop} {M : Mi} {d pc : Nat} {ls st : List Value} {h : Hp} {i : Fin 4} {x : Int64} (hd : decode M.2.1 pc = .ok (.lload_n i, 1)) (hi : lat ls i.val = some (.long x)) (K : Rq M d (pc + 1) ls (.long x :: st) h Q) : Rq M d pc ls st h Q := by
  obtain ⟨r, h', q, K⟩ := K
  exact ⟨r, h', q, Rx_lload_n hd hi K⟩
theorem Rq_aload {Q : Option Value → Hp → Prop} {M : Mi} {d pc : Nat} {ls st : List Value} {h : Hp} {i : Nat} {x : Nat} (hd : decode M.2.1 pc = .ok (.aload i, 2)) (hi : lat ls i = some (.ref x)) (K : Rq M d (pc + 2) ls (.ref x :: st) h Q) : Rq M d pc ls st h Q := by
  obtain ⟨r, h', q, K⟩ := K
  exact ⟨r, h', q, Rx_aload hd hi K⟩
theorem Rq_aload_n {Q : Option Value → Hp → Prop} {M : Mi} {d pc : Nat} {ls st : List Value} {h : Hp} {i : Fin 4} {x : Nat} (hd : decode M.2.1 pc = .ok (.aload_n i, 1)) (hi : lat ls i.val = some (.ref x)) (K : Rq M d (pc + 1) ls (.ref x :: st) h Q) : Rq M d pc ls st h Q := by
  obtain ⟨r, h', q, K⟩ := K
  exact ⟨r, h', q, Rx_aload_n hd hi K⟩
theorem Rq_fload_n {Q : Option Value → Hp → Prop} {M : Mi} {d pc : Nat} {ls st : List Value} {h : Hp} {i : Fin 4} {x : UInt32} (hd : decode M.2.1 pc = .ok (.fload_n i, 1)) (hi : lat ls i.val = some (.float x)) (K : Rq M d (pc + 1) ls (.float x :: st) h Q) : Rq M d pc ls st h Q := by
  obtain ⟨r, h', q, K⟩ := K
  exact ⟨r, h', q, Rx_fload_n hd hi K⟩
theorem Rq_istore {Q : Option Value → Hp → Prop} {M : Mi} {d pc : Nat} {ls st : List Value} {h : Hp} {i : Nat} {x : Int32} (ls' : List Value) (hd : decode M.2.1 pc = .ok (.istore i, 2)) (hn : nol ls i = true) (hi : Nat.ble (i + 1) M.2.2.1 = true) (hs : lse ls i (.int x) = ls') (K : Rq M d (pc + 2) ls' st h Q) : Rq M d pc ls (.int x :: st) h Q := by
  obtain ⟨r, h', q, K⟩ := K
  exact ⟨r, h', q, Rx_istore ls' hd hn hi hs K⟩
theorem Rq_istore_n {Q : Option Value → Hp → Prop} {M : Mi} {d pc : Nat} {ls st : List Value} {h : Hp} {i : Fin 4} {x : Int32} (ls' : List Value) (hd : decode M.2.1 pc = .ok (.istore_n i, 1)) (hn : nol ls i.val = true) (hi : Nat.ble (i.val + 1) M.2.2.1 = true) (hs : lse ls i.val (.int x) = ls') (K : Rq M d (pc + 1) ls' st h Q) : Rq M d pc ls (.int x :: st) h Q := by
  obtain ⟨r, h', q, K⟩ := K
  exact ⟨r, h', q, Rx_istore_n ls' hd hn hi hs K⟩
theorem Rq_astore {Q : Option Value → Hp → Prop} {M : Mi} {d pc : Nat} {ls st : List Value} {h : Hp} {i : Nat} {x : Nat} (ls' : List Value) (hd : decode M.2.1 pc = .ok (.astore i, 2)) (hn : nol ls i = true) (hi : Nat.ble (i + 1) M.2.2.1 = true) (hs : lse ls i (.ref x) = ls') (K : Rq M d (pc + 2) ls' st h Q) : Rq M d pc ls (.ref x :: st) h Q := by
  obtain ⟨r, h', q, K⟩ := K
  exact ⟨r, h', q, Rx_astore ls' hd hn hi hs K⟩
theorem Rq_astore_n {Q : Option Value → Hp → Prop} {M : Mi} {d pc : Nat} {ls st : List Value} {h : Hp} {i : Fin 4} {x : Nat} (ls' : List Value) (hd : decode M.2.1 pc = .ok (.astore_n i, 1)) (hn : nol ls i.val = true) (hi : Nat.ble (i.val + 1) M.2.2.1 = true) (hs : lse ls i.val (.ref x) = ls') (K : Rq M d (pc + 1) ls' st h Q) : Rq M d pc ls (.ref x :: st) h Q := by
  obtain ⟨r, h', q, K⟩ := K
  exact ⟨r, h', q, Rx_astore_n ls' hd hn hi hs K⟩
theorem Rq_lstore {Q : Option Value → Hp → Prop} {M : Mi} {d pc : Nat} {ls st : List Value} {h : Hp} {i : Nat} {x : Int64} (ls' : List Value) (hd : decode M.2.1 pc = .ok (.lstore i, 2)) (hn : nol ls i = true) (hi : Nat.ble (i + 2) M.2.2.1 = true) (hs : lse (lse ls i (.long x)) (i + 1) (.retAddr 0) = ls') (K : Rq M d (pc + 2) ls' st h Q) : Rq M d pc ls (.long x :: st) h Q := by
  obtain ⟨r, h', q, K⟩ := K
  exact ⟨r, h', q, Rx_lstore ls' hd hn hi hs K⟩
theorem Rq_lstore_n {Q : Option Value → Hp → Prop} {M : Mi} {d pc : Nat} {ls st : List Value} {h : Hp} {i : Fin 4} {x : Int64} (ls' : List Value) (hd : decode M.2.1 pc = .ok (.lstore_n i, 1)) (hn : nol ls i.val = true) (hi : Nat.ble (i.val + 2) M.2.2.1 = true) (hs : lse (lse ls i.val (.long x)) (i.val + 1) (.retAddr 0) = ls') (K : Rq M d (pc + 1) ls' st h Q) : Rq M d pc ls (.long x :: st) h Q := by
  obtain ⟨r, h', q, K⟩ := K
  exact ⟨r, h', q, Rx_lstore_n ls' hd hn hi hs K⟩
theorem Rq_iinc {Q : Option Value → Hp → Prop} {M : Mi} {d pc : Nat} {ls st : List Value} {h : Hp} {i : Nat} {n : Int} {x : Int32} (ls' : List Value) (c : Int32) (hd : decode M.2.1 pc = .ok (.iinc i n, 3)) (hx : lat ls i = some (.int x)) (hc : Int32.ofInt n = c) (hn : nol ls i = true) (hi : Nat.ble (i + 1) M.2.2.1 = true) (hs : lse ls i (.int (x + c)) = ls') (K : Rq M d (pc + 3) ls' st h Q) : Rq M d pc ls st h Q := by
  obtain ⟨r, h', q, K⟩ := K
  exact ⟨r, h', q, Rx_iinc ls' c hd hx hc hn hi hs K⟩
theorem Rq_iadd {Q : Option Value → Hp → Prop} {M : Mi} {d pc : Nat} {ls st : List Value} {h : Hp} {x y : Int32} (hd : decode M.2.1 pc = .ok (.iadd, 1)) (K : Rq M d (pc + 1) ls (.int (x + y) :: st) h Q) : Rq M d pc ls (.int y :: .int x :: st) h Q := by
  obtain ⟨r, h', q, K⟩ := K
  exact ⟨r, h', q, Rx_iadd hd K⟩
theorem Rq_isub {Q : Option Value → Hp → Prop} {M : Mi} {d pc : Nat} {ls st : List Value} {h : Hp} {x y : Int32} (hd : decode M.2.1 pc = .ok (.isub, 1)) (K : Rq M d (pc + 1) ls (.int (x - y) :: st) h Q) : Rq M d pc ls (.int y :: .int x :: st) h Q := by
  obtain ⟨r, h', q, K⟩ := K
  exact ⟨r, h', q, Rx_isub hd K⟩
theorem Rq_imul {Q : Option Value → Hp → Prop} {M : Mi} {d pc : Nat} {ls st : List Value} {h : Hp} {x y : Int32} (hd : decode M.2.1 pc = .ok (.imul, 1)) (K : Rq M d (pc + 1) ls (.int (x * y) :: st) h Q) : Rq M d pc ls (.int y :: .int x :: st) h Q := by
  obtain ⟨r, h', q, K⟩ := K
  exact ⟨r, h', q, Rx_imul hd K⟩
theorem Rq_iand {Q : Option Value → Hp → Prop} {M : Mi} {d pc : Nat} {ls st : List Value} {h : Hp} {x y : Int32} (hd : decode M.2.1 pc = .ok (.iand, 1)) (K : Rq M d (pc + 1) ls (.int (x &&& y) :: st) h Q) : Rq M d pc ls (.int y :: .int x :: st) h Q := by
  obtain ⟨r, h', q, K⟩ := K
  exact ⟨r, h', q, Rx_iand hd K⟩
theorem Rq_ior {Q : Option Value → Hp → Prop} {M : Mi} {d pc : Nat} {ls st : List Value} {h : Hp} {x y : Int32} (hd : decode M.2.1 pc = .ok (.ior, 1)) (K : Rq M d (pc + 1) ls (.int (x ||| y) :: st) h Q) : Rq M d pc ls (.int y :: .int x :: st) h Q := by
  obtain ⟨r, h', q, K⟩ := K
  exact ⟨r, h', q, Rx_ior hd K⟩
theorem Rq_ixor {Q : Option Value → Hp → Prop} {M : Mi} {d pc : Nat} {ls st : List Value} {h : Hp} {x y : Int32} (hd : decode M.2.1 pc = .ok (.ixor, 1)) (K : Rq M d (pc + 1) ls (.int (x ^^^ y) :: st) h Q) : Rq M d pc ls (.int y :: .int x :: st) h Q := by
  obtain ⟨r, h', q, K⟩ := K
  exact ⟨r, h', q, Rx_ixor hd K⟩
theorem Rq_ishl {Q : Option Value → Hp → Prop} {M : Mi} {d pc : Nat} {ls st : List Value} {h : Hp} {x y : Int32} (hd : decode M.2.1 pc = .ok (.ishl, 1)) (K : Rq M d (pc + 1) ls (.int (x <<< (y &&& 31)) :: st) h Q) : Rq M d pc ls (.int y :: .int x :: st) h Q := by
  obtain ⟨r, h', q, K⟩ := K
  exact ⟨r, h', q, Rx_ishl hd K⟩
theorem Rq_ishr {Q : Option Value → Hp → Prop} {M : Mi} {d pc : Nat} {ls st : List Value} {h : Hp} {x y : Int32} (hd : decode M.2.1 pc = .ok (.ishr, 1)) (K : Rq M d (pc + 1) ls (.int (x >>> (y &&& 31)) :: st) h Q) : Rq M d pc ls (.int y :: .int x :: st) h Q := by
  obtain ⟨r, h', q, K⟩ := K
  exact ⟨r, h', q, Rx_ishr hd K⟩
theorem Rq_iushr {Q : Option Value → Hp → Prop} {M : Mi} {d pc : Nat} {ls st : List Value} {h : Hp} {x y : Int32} (hd : decode M.2.1 pc = .ok (.iushr, 1)) (K : Rq M d (pc + 1) ls (.int ((x.toUInt32 >>> (y.toUInt32 &&& Int32.toUInt32 31)).toInt32) :: st) h Q) : Rq M d pc ls (.int y :: .int x :: st) h Q := by
  obtain ⟨r, h', q, K⟩ := K
  exact ⟨r, h', q, Rx_iushr hd K⟩
theorem Rq_ladd {Q : Option Value → Hp → Prop} {M : Mi} {d pc : Nat} {ls st : List Value} {h : Hp} {x y : Int64} (hd : decode M.2.1 pc = .ok (.ladd, 1)) (K : Rq M d (pc + 1) ls (.long (x + y) :: st) h Q) : Rq M d pc ls (.long y :: .long x :: st) h Q := by
  obtain ⟨r, h', q, K⟩ := K
  exact ⟨r, h', q, Rx_ladd hd K⟩
theorem Rq_lsub {Q : Option Value → Hp → Prop} {M : Mi} {d pc : Nat} {ls st : List Value} {h : Hp} {x y : Int64} (hd : decode M.2.1 pc = .ok (.lsub, 1)) (K : Rq M d (pc + 1) ls (.long (x - y) :: st) h Q) : Rq M d pc ls (.long y :: .long x :: st) h Q := by
  obtain ⟨r, h', q, K⟩ := K
  exact ⟨r, h', q, Rx_lsub hd K⟩
theorem Rq_lmul {Q : Option Value → Hp → Prop} {M : Mi} {d pc : Nat} {ls st : List Value} {h : Hp} {x y : Int64} (hd : decode M.2.1 pc = .ok (.lmul, 1)) (K : Rq M d (pc + 1) ls (.long (x * y) :: st) h Q) : Rq M d pc ls (.long y :: .long x :: st) h Q := by
  obtain ⟨r, h', q, K⟩ := K
  exact ⟨r, h', q, Rx_lmul hd K⟩
theorem Rq_land {Q : Option Value → Hp → Prop} {M : Mi} {d pc : Nat} {ls st : List Value} {h : Hp} {x y : Int64} (hd : decode M.2.1 pc = .ok (.land, 1)) (K : Rq M d (pc + 1) ls (.long (x &&& y) :: st) h Q) : Rq M d pc ls (.long y :: .long x :: st) h Q := by
  obtain ⟨r, h', q, K⟩ := K
  exact ⟨r, h', q, Rx_land hd K⟩
theorem Rq_lor {Q : Option Value → Hp → Prop} {M : Mi} {d pc : Nat} {ls st : List Value} {h : Hp} {x y : Int64} (hd : decode M.2.1 pc = .ok (.lor, 1)) (K : Rq M d (pc + 1) ls (.long (x ||| y) :: st) h Q) : Rq M d pc ls (.long y :: .long x :: st) h Q := by
  obtain ⟨r, h', q, K⟩ := K
  exact ⟨r, h', q, Rx_lor hd K⟩
theorem Rq_lxor {Q : Option Value → Hp → Prop} {M : Mi} {d pc : Nat} {ls st : List Value} {h : Hp} {x y : Int64} (hd : decode M.2.1 pc = .ok (.lxor, 1)) (K : Rq M d (pc + 1) ls (.long (x ^^^ y) :: st) h Q) : Rq M d pc ls (.long y :: .long x :: st) h Q := by
  obtain ⟨r, h', q, K⟩ := K
  exact ⟨r, h', q, Rx_lxor hd K⟩
theorem Rq_lushr {Q : Option Value → Hp → Prop} {M : Mi} {d pc : Nat} {ls st : List Value} {h : Hp} {x : Int64} {y : Int32} (hd : decode M.2.1 pc = .ok (.lushr, 1)) (K : Rq M d (pc + 1) ls (.long ((x.toUInt64 >>> (y.toInt64.toUInt64 &&& Int64.toUInt64 63)).toInt64) :: st) h Q) : Rq M d pc ls (.int y :: .long x :: st) h Q := by
  obtain ⟨r, h', q, K⟩ := K
  exact ⟨r, h', q, Rx_lushr hd K⟩
theorem Rq_lcmp {Q : Option Value → Hp → Prop} {M : Mi} {d pc : Nat} {ls st : List Value} {h : Hp} {x y : Int64} (hd : decode M.2.1 pc = .ok (.lcmp, 1)) (K : Rq M d (pc + 1) ls (.int (lg_cmp x y) :: st) h Q) : Rq M d pc ls (.long y :: .long x :: st) h Q := by
  obtain ⟨r, h', q, K⟩ := K
  exact ⟨r, h', q, Rx_lcmp hd K⟩
theorem Rq_ineg {Q : Option Value → Hp → Prop} {M : Mi} {d pc : Nat} {ls st : List Value} {h : Hp} {x : Int32} (hd : decode M.2.1 pc = .ok (.ineg, 1)) (K : Rq M d (pc + 1) ls (.int (-x) :: st) h Q) : Rq M d pc ls (.int x :: st) h Q := by
  obtain ⟨r, h', q, K⟩ := K
  exact ⟨r, h', q, Rx_ineg hd K⟩
theorem Rq_i2l {Q : Option Value → Hp → Prop} {M : Mi} {d pc : Nat} {ls st : List Value} {h : Hp} {x : Int32} (hd : decode M.2.1 pc = .ok (.i2l, 1)) (K : Rq M d (pc + 1) ls (.long x.toInt64 :: st) h Q) : Rq M d pc ls (.int x :: st) h Q := by
  obtain ⟨r, h', q, K⟩ := K
  exact ⟨r, h', q, Rx_i2l hd K⟩
theorem Rq_l2i {Q : Option Value → Hp → Prop} {M : Mi} {d pc : Nat} {ls st : List Value} {h : Hp} {x : Int64} (hd : decode M.2.1 pc = .ok (.l2i, 1)) (K : Rq M d (pc + 1) ls (.int x.toInt32 :: st) h Q) : Rq M d pc ls (.long x :: st) h Q := by
  obtain ⟨r, h', q, K⟩ := K
  exact ⟨r, h', q, Rx_l2i hd K⟩
theorem Rq_i2f {Q : Option Value → Hp → Prop} {M : Mi} {d pc : Nat} {ls st : List Value} {h : Hp} {x : Int32} (hd : decode M.2.1 pc = .ok (.i2f, 1)) (K : Rq M d (pc + 1) ls (.float (FP.i2f x) :: st) h Q) : Rq M d pc ls (.int x :: st) h Q := by
  obtain ⟨r, h', q, K⟩ := K
  exact ⟨r, h', q, Rx_i2f hd K⟩
theorem Rq_fcmp {Q : Option Value → Hp → Prop} {M : Mi} {d pc : Nat} {ls st : List Value} {h : Hp} {x y : UInt32} {op : CmpOp} (hd : decode M.2.1 pc = .ok (.fcmp op, 1)) (K : Rq M d (pc + 1) ls (.int (Op.cmpValue (FP.fcmp x y) op) :: st) h Q) : Rq M d pc ls (.float y :: .float x :: st) h Q := by
  obtain ⟨r, h', q, K⟩ := K
  exact ⟨r, h', q, Rx_fcmp hd K⟩
theorem Rq_idiv {Q : Option Value → Hp → Prop} {M : Mi} {d pc : Nat} {ls st : List Value} {h : Hp} {x y : Int32} (hd : decode M.2.1 pc = .ok (.idiv, 1)) (hy : ¬ y = 0) (K : Rq M d (pc + 1) ls (.int (x / y) :: st) h Q) : Rq M d pc ls (.int y :: .int x :: st) h Q := by
  obtain ⟨r, h', q, K⟩ := K
  exact ⟨r, h', q, Rx_idiv hd hy K⟩
theorem Rq_irem {Q : Option Value → Hp → Prop} {M : Mi} {d pc : Nat} {ls st : List Value} {h : Hp} {x y : Int32} (hd : decode M.2.1 pc = .ok (.irem, 1)) (hy : ¬ y = 0) (K : Rq M d (pc + 1) ls (.int (x - x / y * y) :: st) h Q) : Rq M d pc ls (.int y :: .int x :: st) h Q := by
  obtain ⟨r, h', q, K⟩ := K
  exact ⟨r, h', q, Rx_irem hd hy K⟩
theorem Rq_lrem {Q : Option Value → Hp → Prop} {M : Mi} {d pc : Nat} {ls st : List Value} {h : Hp} {x y : Int64} (hd : decode M.2.1 pc = .ok (.lrem, 1)) (hy : ¬ y = 0) (K : Rq M d (pc + 1) ls (.long (x - x / y * y) :: st) h Q) : Rq M d pc ls (.long y :: .long x :: st) h Q := by
  obtain ⟨r, h', q, K⟩ := K
  exact ⟨r, h', q, Rx_lrem hd hy K⟩
theorem Rq_ldiv {Q : Option Value → Hp → Prop} {M : Mi} {d pc : Nat} {ls st : List Value} {h : Hp} {x y : Int64} (hd : decode M.2.1 pc = .ok (.ldiv, 1)) (hy : ¬ y = 0) (K : Rq M d (pc + 1) ls (.long (x / y) :: st) h Q) : Rq M d pc ls (.long y :: .long x :: st) h Q := by
  obtain ⟨r, h', q, K⟩ := K
  exact ⟨r, h', q, Rx_ldiv hd hy K⟩
theorem Rq_fdiv {Q : Option Value → Hp → Prop} {M : Mi} {d pc : Nat} {ls st : List Value} {h : Hp} {x y : UInt32} (hd : decode M.2.1 pc = .ok (.fdiv, 1)) (hy : vf_n32 (FP.fdiv x y)) (K : Rq M d (pc + 1) ls (.float (FP.fdiv x y) :: st) h Q) : Rq M d pc ls (.float y :: .float x :: st) h Q := by
  obtain ⟨r, h', q, K⟩ := K
  exact ⟨r, h', q, Rx_fdiv hd hy K⟩
theorem Rq_dup {Q : Option Value → Hp → Prop} {M : Mi} {d pc : Nat} {ls st : List Value} {h : Hp} {v : Value} (hd : decode M.2.1 pc = .ok (.dup, 1)) (hv : v.category = 1) (K : Rq M d (pc + 1) ls (v :: v :: st) h Q) : Rq M d pc ls (v :: st) h Q := by
  obtain ⟨r, h', q, K⟩ := K
  exact ⟨r, h', q, Rx_dup hd hv K⟩
theorem Rq_pop {Q : Option Value → Hp → Prop} {M : Mi} {d pc : Nat} {ls st : List Value} {h : Hp} {v : Value} (hd : decode M.2.1 pc = .ok (.pop, 1)) (hv : v.category = 1) (K : Rq M d (pc + 1) ls st h Q) : Rq M d pc ls (v :: st) h Q := by
  obtain ⟨r, h', q, K⟩ := K
  exact ⟨r, h', q, Rx_pop hd hv K⟩
theorem Rq_dup2 {Q : Option Value → Hp → Prop} {M : Mi} {d pc : Nat} {ls st : List Value} {h : Hp} {v w : Value} (hd : decode M.2.1 pc = .ok (.dup2, 1)) (hv : v.category = 1) (hw : w.category = 1) (K : Rq M d (pc + 1) ls (v :: w :: v :: w :: st) h Q) : Rq M d pc ls (v :: w :: st) h Q := by
  obtain ⟨r, h', q, K⟩ := K
  exact ⟨r, h', q, Rx_dup2 hd hv hw K⟩
theorem Rq_dup_x1 {Q : Option Value → Hp → Prop} {M : Mi} {d pc : Nat} {ls st : List Value} {h : Hp} {v w : Value} (hd : decode M.2.1 pc = .ok (.dup_x1, 1)) (hv : v.category = 1) (hw : w.category = 1) (K : Rq M d (pc + 1) ls (v :: w :: v :: st) h Q) : Rq M d pc ls (v :: w :: st) h Q := by
  obtain ⟨r, h', q, K⟩ := K
  exact ⟨r, h', q, Rx_dup_x1 hd hv hw K⟩
theorem Rq_goto {Q : Option Value → Hp → Prop} {M : Mi} {d pc : Nat} {ls st : List Value} {h : Hp} {off : Int} (tgt : Nat) (hd : decode M.2.1 pc = .ok (.goto off, 3)) (ht : (pc : Int) + off = (tgt : Int)) (K : Rq M d tgt ls st h Q) : Rq M d pc ls st h Q := by
  obtain ⟨r, h', q, K⟩ := K
  exact ⟨r, h', q, Rx_goto tgt hd ht K⟩
theorem Rq_icmp_eq_t {Q : Option Value → Hp → Prop} {M : Mi} {d pc : Nat} {ls st : List Value} {h : Hp} {x y : Int32} {off : Int} (tgt : Nat) (hd : decode M.2.1 pc = .ok (.if_icmp .eq off, 3)) (ht : (pc : Int) + off = (tgt : Int)) (hc : x = y) (K : Rq M d tgt ls st h Q) : Rq M d pc ls (.int y :: .int x :: st) h Q := by
  obtain ⟨r, h', q, K⟩ := K
  exact ⟨r, h', q, Rx_icmp_eq_t tgt hd ht hc K⟩
theorem Rq_icmp_eq_f {Q : Option Value → Hp → Prop} {M : Mi} {d pc : Nat} {ls st : List Value} {h : Hp} {x y : Int32} {off : Int} (tgt : Nat) (hd : decode M.2.1 pc = .ok (.if_icmp .eq off, 3)) (ht : (pc : Int) + off = (tgt : Int)) (hc : ¬ x = y) (K : Rq M d (pc + 3) ls st h Q) : Rq M d pc ls (.int y :: .int x :: st) h Q := by
  obtain ⟨r, h', q, K⟩ := K
  exact ⟨r, h', q, Rx_icmp_eq_f tgt hd ht hc K⟩
theorem Rq_if_eq_t {Q : Option Value → Hp → Prop} {M : Mi} {d pc : Nat} {ls st : List Value} {h : Hp} {x : Int32} {off : Int} (tgt : Nat) (hd : decode M.2.1 pc = .ok (.ifCond .eq off, 3)) (ht : (pc : Int) + off = (tgt : Int)) (hc : x = 0) (K : Rq M d tgt ls st h Q) : Rq M d pc ls (.int x :: st) h Q := by
  obtain ⟨r, h', q, K⟩ := K
  exact ⟨r, h', q, Rx_if_eq_t tgt hd ht hc K⟩
theorem Rq_if_eq_f {Q : Option Value → Hp → Prop} {M : Mi} {d pc : Nat} {ls st : List Value} {h : Hp} {x : Int32} {off : Int} (tgt : Nat) (hd : decode M.2.1 pc = .ok (.ifCond .eq off, 3)) (ht : (pc : Int) + off = (tgt : Int)) (hc : ¬ x = 0) (K : Rq M d (pc + 3) ls st h Q) : Rq M d pc ls (.int x :: st) h Q := by
  obtain ⟨r, h', q, K⟩ := K
  exact ⟨r, h', q, Rx_if_eq_f tgt hd ht hc K⟩
theorem Rq_icmp_ne_t {Q : Option Value → Hp → Prop} {M : Mi} {d pc : Nat} {ls st : List Value} {h : Hp} {x y : Int32} {off : Int} (tgt : Nat) (hd : decode M.2.1 pc = .ok (.if_icmp .ne off, 3)) (ht : (pc : Int) + off = (tgt : Int)) (hc : ¬ x = y) (K : Rq M d tgt ls st h Q) : Rq M d pc ls (.int y :: .int x :: st) h Q := by
  obtain ⟨r, h', q, K⟩ := K
  exact ⟨r, h', q, Rx_icmp_ne_t tgt hd ht hc K⟩
theorem Rq_icmp_ne_f {Q : Option Value → Hp → Prop} {M : Mi} {d pc : Nat} {ls st : List Value} {h : Hp} {x y : Int32} {off : Int} (tgt : Nat) (hd : decode M.2.1 pc = .ok (.if_icmp .ne off, 3)) (ht : (pc : Int) + off = (tgt : Int)) (hc : x = y) (K : Rq M d (pc + 3) ls st h Q) : Rq M d pc ls (.int y :: .int x :: st) h Q := by
  obtain ⟨r, h', q, K⟩ := K
  exact ⟨r, h', q, Rx_icmp_ne_f tgt hd ht hc K⟩
theorem Rq_if_ne_t {Q : Option Value → Hp → Prop} {M : Mi} {d pc : Nat} {ls st : List Value} {h : Hp} {x : Int32} {off : Int} (tgt : Nat) (hd : decode M.2.1 pc = .ok (.ifCond .ne off, 3)) (ht : (pc : Int) + off = (tgt : Int)) (hc : ¬ x = 0) (K : Rq M d tgt ls st h Q) : Rq M d pc ls (.int x :: st) h Q := by
  obtain ⟨r, h', q, K⟩ := K
  exact ⟨r, h', q, Rx_if_ne_t tgt hd ht hc K⟩
theorem Rq_if_ne_f {Q : Option Value → Hp → Prop} {M : Mi} {d pc : Nat} {ls st : List Value} {h : Hp} {x : Int32} {off : Int} (tgt : Nat) (hd : decode M.2.1 pc = .ok (.ifCond .ne off, 3)) (ht : (pc : Int) + off = (tgt : Int)) (hc : x = 0) (K : Rq M d (pc + 3) ls st h Q) : Rq M d pc ls (.int x :: st) h Q := by
  obtain ⟨r, h', q, K⟩ := K
  exact ⟨r, h', q, Rx_if_ne_f tgt hd ht hc K⟩
theorem Rq_icmp_lt_t {Q : Option Value → Hp → Prop} {M : Mi} {d pc : Nat} {ls st : List Value} {h : Hp} {x y : Int32} {off : Int} (tgt : Nat) (hd : decode M.2.1 pc = .ok (.if_icmp .lt off, 3)) (ht : (pc : Int) + off = (tgt : Int)) (hc : x < y) (K : Rq M d tgt ls st h Q) : Rq M d pc ls (.int y :: .int x :: st) h Q := by
  obtain ⟨r, h', q, K⟩ := K
  exact ⟨r, h', q, Rx_icmp_lt_t tgt hd ht hc K⟩
theorem Rq_icmp_lt_f {Q : Option Value → Hp → Prop} {M : Mi} {d pc : Nat} {ls st : List Value} {h : Hp} {x y : Int32} {off : Int} (tgt : Nat) (hd : decode M.2.1 pc = .ok (.if_icmp .lt off, 3)) (ht : (pc : Int) + off = (tgt : Int)) (hc : ¬ x < y) (K : Rq M d (pc + 3) ls st h Q) : Rq M d pc ls (.int y :: .int x :: st) h Q := by
  obtain ⟨r, h', q, K⟩ := K
  exact ⟨r, h', q, Rx_icmp_lt_f tgt hd ht hc K⟩
theorem Rq_if_lt_t {Q : Option Value → Hp → Prop} {M : Mi} {d pc : Nat} {ls st : List Value} {h : Hp} {x : Int32} {off : Int} (tgt : Nat) (hd : decode M.2.1 pc = .ok (.ifCond .lt off, 3)) (ht : (pc : Int) + off = (tgt : Int)) (hc : x < 0) (K : Rq M d tgt ls st h Q) : Rq M d pc ls (.int x :: st) h Q := by
  obtain ⟨r, h', q, K⟩ := K
  exact ⟨r, h', q, Rx_if_lt_t tgt hd ht hc K⟩
theorem Rq_if_lt_f {Q : Option Value → Hp → Prop} {M : Mi} {d pc : Nat} {ls st : List Value} {h : Hp} {x : Int32} {off : Int} (tgt : Nat) (hd : decode M.2.1 pc = .ok (.ifCond .lt off, 3)) (ht : (pc : Int) + off = (tgt : Int)) (hc : ¬ x < 0) (K : Rq M d (pc + 3) ls st h Q) : Rq M d pc ls (.int x :: st) h Q := by
  obtain ⟨r, h', q, K⟩ := K
  exact ⟨r, h', q, Rx_if_lt_f tgt hd ht hc K⟩
theorem Rq_icmp_ge_t {Q : Option Value → Hp → Prop} {M : Mi} {d pc : Nat} {ls st : List Value} {h : Hp} {x y : Int32} {off : Int} (tgt : Nat) (hd : decode M.2.1 pc = .ok (.if_icmp .ge off, 3)) (ht : (pc : Int) + off = (tgt : Int)) (hc : y ≤ x) (K : Rq M d tgt ls st h Q) : Rq M d pc ls (.int y :: .int x :: st) h Q := by
  obtain ⟨r, h', q, K⟩ := K
  exact ⟨r, h', q, Rx_icmp_ge_t tgt hd ht hc K⟩
theorem Rq_icmp_ge_f {Q : Option Value → Hp → Prop} {M : Mi} {d pc : Nat} {ls st : List Value} {h : Hp} {x y : Int32} {off : Int} (tgt : Nat) (hd : decode M.2.1 pc = .ok (.if_icmp .ge off, 3)) (ht : (pc : Int) + off = (tgt : Int)) (hc : ¬ y ≤ x) (K : Rq M d (pc + 3) ls st h Q) : Rq M d pc ls (.int y :: .int x :: st) h Q := by
  obtain ⟨r, h', q, K⟩ := K
  exact ⟨r, h', q, Rx_icmp_ge_f tgt hd ht hc K⟩
theorem Rq_if_ge_t {Q : Option Value → Hp → Prop} {M : Mi} {d pc : Nat} {ls st : List Value} {h : Hp} {x : Int32} {off : Int} (tgt : Nat) (hd : decode M.2.1 pc = .ok (.ifCond .ge off, 3)) (ht : (pc : Int) + off = (tgt : Int)) (hc : 0 ≤ x) (K : Rq M d tgt ls st h Q) : Rq M d pc ls (.int x :: st) h Q := by
  obtain ⟨r, h', q, K⟩ := K
  exact ⟨r, h', q, Rx_if_ge_t tgt hd ht hc K⟩
theorem Rq_if_ge_f {Q : Option Value → Hp → Prop} {M : Mi} {d pc : Nat} {ls st : List Value} {h : Hp} {x : Int32} {off : Int} (tgt : Nat) (hd : decode M.2.1 pc = .ok (.ifCond .ge off, 3)) (ht : (pc : Int) + off = (tgt : Int)) (hc : ¬ 0 ≤ x) (K : Rq M d (pc + 3) ls st h Q) : Rq M d pc ls (.int x :: st) h Q := by
  obtain ⟨r, h', q, K⟩ := K
  exact ⟨r, h', q, Rx_if_ge_f tgt hd ht hc K⟩
theorem Rq_icmp_gt_t {Q : Option Value → Hp → Prop} {M : Mi} {d pc : Nat} {ls st : List Value} {h : Hp} {x y : Int32} {off : Int} (tgt : Nat) (hd : decode M.2.1 pc = .ok (.if_icmp .gt off, 3)) (ht : (pc : Int) + off = (tgt : Int)) (hc : y < x) (K : Rq M d tgt ls st h Q) : Rq M d pc ls (.int y :: .int x :: st) h Q := by
  obtain ⟨r, h', q, K⟩ := K
  exact ⟨r, h', q, Rx_icmp_gt_t tgt hd ht hc K⟩
theorem Rq_icmp_gt_f {Q : Option Value → Hp → Prop} {M : Mi} {d pc : Nat} {ls st : List Value} {h : Hp} {x y : Int32} {off : Int} (tgt : Nat) (hd : decode M.2.1 pc = .ok (.if_icmp .gt off, 3)) (ht : (pc : Int) + off = (tgt : Int)) (hc : ¬ y < x) (K : Rq M d (pc + 3) ls st h Q) : Rq M d pc ls (.int y :: .int x :: st) h Q := by
  obtain ⟨r, h', q, K⟩ := K
  exact ⟨r, h', q, Rx_icmp_gt_f tgt hd ht hc K⟩
theorem Rq_if_gt_t {Q : Option Value → Hp → Prop} {M : Mi} {d pc : Nat} {ls st : List Value} {h : Hp} {x : Int32} {off : Int} (tgt : Nat) (hd : decode M.2.1 pc = .ok (.ifCond .gt off, 3)) (ht : (pc : Int) + off = (tgt : Int)) (hc : 0 < x) (K : Rq M d tgt ls st h Q) : Rq M d pc ls (.int x :: st) h Q := by
  obtain ⟨r, h', q, K⟩ := K
  exact ⟨r, h', q, Rx_if_gt_t tgt hd ht hc K⟩
theorem Rq_if_gt_f {Q : Option Value → Hp → Prop} {M : Mi} {d pc : Nat} {ls st : List Value} {h : Hp} {x : Int32} {off : Int} (tgt : Nat) (hd : decode M.2.1 pc = .ok (.ifCond .gt off, 3)) (ht : (pc : Int) + off = (tgt : Int)) (hc : ¬ 0 < x) (K : Rq M d (pc + 3) ls st h Q) : Rq M d pc ls (.int x :: st) h Q := by
  obtain ⟨r, h', q, K⟩ := K
  exact ⟨r, h', q, Rx_if_gt_f tgt hd ht hc K⟩
theorem Rq_icmp_le_t {Q : Option Value → Hp → Prop} {M : Mi} {d pc : Nat} {ls st : List Value} {h : Hp} {x y : Int32} {off : Int} (tgt : Nat) (hd : decode M.2.1 pc = .ok (.if_icmp .le off, 3)) (ht : (pc : Int) + off = (tgt : Int)) (hc : x ≤ y) (K : Rq M d tgt ls st h Q) : Rq M d pc ls (.int y :: .int x :: st) h Q := by
  obtain ⟨r, h', q, K⟩ := K
  exact ⟨r, h', q, Rx_icmp_le_t tgt hd ht hc K⟩
theorem Rq_icmp_le_f {Q : Option Value → Hp → Prop} {M : Mi} {d pc : Nat} {ls st : List Value} {h : Hp} {x y : Int32} {off : Int} (tgt : Nat) (hd : decode M.2.1 pc = .ok (.if_icmp .le off, 3)) (ht : (pc : Int) + off = (tgt : Int)) (hc : ¬ x ≤ y) (K : Rq M d (pc + 3) ls st h Q) : Rq M d pc ls (.int y :: .int x :: st) h Q := by
  obtain ⟨r, h', q, K⟩ := K
  exact ⟨r, h', q, Rx_icmp_le_f tgt hd ht hc K⟩
theorem Rq_if_le_t {Q : Option Value → Hp → Prop} {M : Mi} {d pc : Nat} {ls st : List Value} {h : Hp} {x : Int32} {off : Int} (tgt : Nat) (hd : decode M.2.1 pc = .ok (.ifCond .le off, 3)) (ht : (pc : Int) + off = (tgt : Int)) (hc : x ≤ 0) (K : Rq M d tgt ls st h Q) : Rq M d pc ls (.int x :: st) h Q := by
  obtain ⟨r, h', q, K⟩ := K
  exact ⟨r, h', q, Rx_if_le_t tgt hd ht hc K⟩
theorem Rq_if_le_f {Q : Option Value → Hp → Prop} {M : Mi} {d pc : Nat} {ls st : List Value} {h : Hp} {x : Int32} {off : Int} (tgt : Nat) (hd : decode M.2.1 pc = .ok (.ifCond .le off, 3)) (ht : (pc : Int) + off = (tgt : Int)) (hc : ¬ x ≤ 0) (K : Rq M d (pc + 3) ls st h Q) : Rq M d pc ls (.int x :: st) h Q := by
  obtain ⟨r, h', q, K⟩ := K
  exact ⟨r, h', q, Rx_if_le_f tgt hd ht hc K⟩
theorem Rq_ifnull {Q : Option Value → Hp → Prop} {M : Mi} {d pc : Nat} {ls st : List Value} {h : Hp} {a : Nat} {off : Int} (hd : decode M.2.1 pc = .ok (.ifnull off, 3)) (K : Rq M d (pc + 3) ls st h Q) : Rq M d pc ls (.ref a :: st) h Q := by
  obtain ⟨r, h', q, K⟩ := K
  exact ⟨r, h', q, Rx_ifnull hd K⟩
theorem Rq_get {M : Mi} {d : Nat} {pc : Nat} {ls : List Value} {st : List Value} {h : Hp} {Q : Option Value → Hp → Prop} {idx ci k a : Nat} {fs : List Value} {v : Value} (hd : decode M.2.1 pc = .ok (.getfield idx, 3)) (hl : FL M.1.cls idx ci k) (hh : h[a]? = some (.inr (ci, fs))) (hv : lat fs k = some v) (K : Rq M d (pc + 3) ls (v :: st) h Q) : Rq M d pc ls (.ref a :: st) h Q := by
  obtain ⟨r, h', q, K⟩ := K
  exact ⟨r, h', q, Rx_get hd hl hh hv K⟩
theorem Rq_put {M : Mi} {d : Nat} {pc : Nat} {ls : List Value} {st : List Value} {h : Hp} {Q : Option Value → Hp → Prop} {idx ci k a : Nat} {fs : List Value} {v : Value} {ty : FieldType} (fs' : List Value) (hd : decode M.2.1 pc = .ok (.putfield idx, 3)) (hl : FP M.1.cls idx ci k ty) (hh : h[a]? = some (.inr (ci, fs))) (hkl : Nat.ble (k + 1) fs.length = true) (hv : okv ty v) (hs : lse fs k v = fs') (K : Rq M d (pc + 3) ls st (h.set a (.inr (ci, fs'))) Q) : Rq M d pc ls (v :: .ref a :: st) h Q := by
  obtain ⟨r, h', q, K⟩ := K
  exact ⟨r, h', q, Rx_put fs' hd hl hh hkl hv hs K⟩
theorem Rq_putF {M : Mi} {d : Nat} {pc : Nat} {ls : List Value} {st : List Value} {h : Hp} {Q : Option Value → Hp → Prop} {idx ci k a : Nat} {fs : List Value} {v : Value} {ty : FieldType} (fs' : List Value) (hd : decode M.2.1 pc = .ok (.putfield idx, 3)) (hl : FF M.1.cls idx ci k ty) (hi : M.1.name = "<init>") (hh : h[a]? = some (.inr (ci, fs))) (hkl : Nat.ble (k + 1) fs.length = true) (hv : okv ty v) (hs : lse fs k v = fs') (K : Rq M d (pc + 3) ls st (h.set a (.inr (ci, fs'))) Q) : Rq M d pc ls (v :: .ref a :: st) h Q := by
  obtain ⟨r, h', q, K⟩ := K
  exact ⟨r, h', q, Rx_putF fs' hd hl hi hh hkl hv hs K⟩
theorem Rq_iald {M : Mi} {d : Nat} {pc : Nat} {ls : List Value} {st : List Value} {h : Hp} {Q : Option Value → Hp → Prop} {a n : Nat} {f : Nat → Int32} {i : Int32} (j : Nat) (hd : decode M.2.1 pc = .ok (.iaload, 1)) (hh : h[a]? = some (aI n f)) (hj : j < n) (hn : n < 2 ^ 31) (hi : i = nI j) (K : Rq M d (pc + 1) ls (.int (f j) :: st) h Q) : Rq M d pc ls (.int i :: .ref a :: st) h Q := by
  obtain ⟨r, h', q, K⟩ := K
  exact ⟨r, h', q, Rx_iald j hd hh hj hn hi K⟩
theorem Rq_lald {M : Mi} {d : Nat} {pc : Nat} {ls : List Value} {st : List Value} {h : Hp} {Q : Option Value → Hp → Prop} {a n : Nat} {f : Nat → Int64} {i : Int32} (j : Nat) (hd : decode M.2.1 pc = .ok (.laload, 1)) (hh : h[a]? = some (aL n f)) (hj : j < n) (hn : n < 2 ^ 31) (hi : i = nI j) (K : Rq M d (pc + 1) ls (.long (f j) :: st) h Q) : Rq M d pc ls (.int i :: .ref a :: st) h Q := by
  obtain ⟨r, h', q, K⟩ := K
  exact ⟨r, h', q, Rx_lald j hd hh hj hn hi K⟩
theorem Rq_aald {M : Mi} {d : Nat} {pc : Nat} {ls : List Value} {st : List Value} {h : Hp} {Q : Option Value → Hp → Prop} {a n q : Nat} {f : Nat → Option Nat} {i : Int32} (j : Nat) (hd : decode M.2.1 pc = .ok (.aaload, 1)) (hh : h[a]? = some (aS n f)) (hj : j < n) (hn : n < 2 ^ 31) (hi : i = nI j) (hf : f j = some q) (K : Rq M d (pc + 1) ls (.ref q :: st) h Q) : Rq M d pc ls (.int i :: .ref a :: st) h Q := by
  obtain ⟨r, h', q, K⟩ := K
  exact ⟨r, h', q, Rx_aald j hd hh hj hn hi hf K⟩
theorem Rq_iast {M : Mi} {d : Nat} {pc : Nat} {ls : List Value} {st : List Value} {h : Hp} {Q : Option Value → Hp → Prop} {a n : Nat} {f : Nat → Int32} {i x : Int32} (j : Nat) (hd : decode M.2.1 pc = .ok (.iastore, 1)) (hh : h[a]? = some (aI n f)) (hj : j < n) (hn : n < 2 ^ 31) (hi : i = nI j) (K : Rq M d (pc + 1) ls st (h.set a (aI n (upd f j x))) Q) : Rq M d pc ls (.int x :: .int i :: .ref a :: st) h Q := by
  obtain ⟨r, h', q, K⟩ := K
  exact ⟨r, h', q, Rx_iast j hd hh hj hn hi K⟩
theorem Rq_last {M : Mi} {d : Nat} {pc : Nat} {ls : List Value} {st : List Value} {h : Hp} {Q : Option Value → Hp → Prop} {a n : Nat} {f : Nat → Int64} {i : Int32} {x : Int64} (j : Nat) (hd : decode M.2.1 pc = .ok (.lastore, 1)) (hh : h[a]? = some (aL n f)) (hj : j < n) (hn : n < 2 ^ 31) (hi : i = nI j) (K : Rq M d (pc + 1) ls st (h.set a (aL n (vp_updL f j x))) Q) : Rq M d pc ls (.long x :: .int i :: .ref a :: st) h Q := by
  obtain ⟨r, h', q, K⟩ := K
  exact ⟨r, h', q, Rx_last j hd hh hj hn hi K⟩
theorem Rq_aast {M : Mi} {d : Nat} {pc : Nat} {ls : List Value} {st : List Value} {h : Hp} {Q : Option Value → Hp → Prop} {a n v : Nat} {f : Nat → Option Nat} {i : Int32} {vs : List Value} (j : Nat) (hd : decode M.2.1 pc = .ok (.aastore, 1)) (hh : h[a]? = some (aS n f)) (hj : j < n) (hn : n < 2 ^ 31) (hi : i = nI j) (hv : h[v]? = some (.inr (6, vs))) (K : Rq M d (pc + 1) ls st (h.set a (aS n (va_up f j (some v)))) Q) : Rq M d pc ls (.ref v :: .int i :: .ref a :: st) h Q := by
  obtain ⟨r, h', q, K⟩ := K
  exact ⟨r, h', q, Rx_aast j hd hh hj hn hi hv K⟩
theorem Rq_alenI {M : Mi} {d : Nat} {pc : Nat} {ls : List Value} {st : List Value} {h : Hp} {Q : Option Value → Hp → Prop} {a n : Nat} {f : Nat → Int32} (hd : decode M.2.1 pc = .ok (.arraylength, 1)) (hh : h[a]? = some (aI n f)) (K : Rq M d (pc + 1) ls (.int (nI n) :: st) h Q) : Rq M d pc ls (.ref a :: st) h Q := by
  obtain ⟨r, h', q, K⟩ := K
  exact ⟨r, h', q, Rx_alenI hd hh K⟩
theorem Rq_alenL {M : Mi} {d : Nat} {pc : Nat} {ls : List Value} {st : List Value} {h : Hp} {Q : Option Value → Hp → Prop} {a n : Nat} {f : Nat → Int64} (hd : decode M.2.1 pc = .ok (.arraylength, 1)) (hh : h[a]? = some (aL n f)) (K : Rq M d (pc + 1) ls (.int (nI n) :: st) h Q) : Rq M d pc ls (.ref a :: st) h Q := by
  obtain ⟨r, h', q, K⟩ := K
  exact ⟨r, h', q, Rx_alenL hd hh K⟩
theorem Rq_newI {M : Mi} {d : Nat} {pc : Nat} {ls : List Value} {st : List Value} {h : Hp} {Q : Option Value → Hp → Prop} {i : Int32} (n : Nat) (hd : decode M.2.1 pc = .ok (.newarray .int, 2)) (hw : Cond.arrayClass .int ∈ gtbl) (hi : i = nI n) (hn : n * 4 ≤ 536870912) (K : Rq M d (pc + 2) ls (.ref h.length :: st) (h ++ [aI n (fun _ => 0)]) Q) : Rq M d pc ls (.int i :: st) h Q := by
  obtain ⟨r, h', q, K⟩ := K
  exact ⟨r, h', q, Rx_newI n hd hw hi hn K⟩
theorem Rq_newL {M : Mi} {d : Nat} {pc : Nat} {ls : List Value} {st : List Value} {h : Hp} {Q : Option Value → Hp → Prop} {i : Int32} (n : Nat) (hd : decode M.2.1 pc = .ok (.newarray .long, 2)) (hw : Cond.arrayClass .long ∈ gtbl) (hi : i = nI n) (hn : n * 8 ≤ 536870912) (K : Rq M d (pc + 2) ls (.ref h.length :: st) (h ++ [aL n (fun _ => 0)]) Q) : Rq M d pc ls (.int i :: st) h Q := by
  obtain ⟨r, h', q, K⟩ := K
  exact ⟨r, h', q, Rx_newL n hd hw hi hn K⟩
theorem Rq_newS {M : Mi} {d : Nat} {pc : Nat} {ls : List Value} {st : List Value} {h : Hp} {Q : Option Value → Hp → Prop} {i : Int32} {idx : Nat} (n : Nat) (hd : decode M.2.1 pc = .ok (.anewarray idx, 3)) (hl : Cond.classLink M.1.cls idx RX6 ∈ gtbl) (hi : i = nI n) (hn : n * 4 ≤ 536870912) (K : Rq M d (pc + 3) ls (.ref h.length :: st) (h ++ [aS n (fun _ => none)]) Q) : Rq M d pc ls (.int i :: st) h Q := by
  obtain ⟨r, h', q, K⟩ := K
  exact ⟨r, h', q, Rx_newS n hd hl hi hn K⟩
theorem Rq_new {M : Mi} {d : Nat} {pc : Nat} {ls : List Value} {st : List Value} {h : Hp} {Q : Option Value → Hp → Prop} {idx ci : Nat} {fs : List Value} (hd : decode M.2.1 pc = .ok (.new idx, 3)) (hl : NL M.1.cls idx ci fs) (K : Rq M d (pc + 3) ls (.ref h.length :: st) (h ++ [.inr (ci, fs)]) Q) : Rq M d pc ls st h Q := by
  obtain ⟨r, h', q, K⟩ := K
  exact ⟨r, h', q, Rx_new hd hl K⟩
theorem Rq_iret {M : Mi} {d : Nat} {pc : Nat} {ls : List Value} {h : Hp} {Q : Option Value → Hp → Prop} {v : Int32} (hd : decode M.2.1 pc = .ok (.ireturn, 1)) (hr : M.2.2.2 = some .int) (q : Q (some (.int v)) h) : Rq M d pc ls [.int v] h Q :=
  ⟨_, _, q, Rx_iret hd hr⟩
theorem Rq_zret {M : Mi} {d : Nat} {pc : Nat} {ls : List Value} {h : Hp} {Q : Option Value → Hp → Prop} {v : Int32} {ty : FieldType} (hd : decode M.2.1 pc = .ok (.ireturn, 1)) (hr : M.2.2.2 = some ty) (hn : narrow ty (.int v) = .int v) (q : Q (some (.int v)) h) : Rq M d pc ls [.int v] h Q :=
  ⟨_, _, q, Rx_zret hd hr hn⟩
theorem Rq_lret {M : Mi} {d : Nat} {pc : Nat} {ls : List Value} {h : Hp} {Q : Option Value → Hp → Prop} {v : Int64} (hd : decode M.2.1 pc = .ok (.lreturn, 1)) (hr : M.2.2.2 = some .long) (q : Q (some (.long v)) h) : Rq M d pc ls [.long v] h Q :=
  ⟨_, _, q, Rx_lret hd hr⟩
theorem Rq_vret {M : Mi} {d : Nat} {pc : Nat} {ls : List Value} {h : Hp} {Q : Option Value → Hp → Prop} (hd : decode M.2.1 pc = .ok (.return_, 1)) (hr : M.2.2.2 = none) (q : Q none h) : Rq M d pc ls [] h Q :=
  ⟨_, _, q, Rx_vret hd hr⟩
theorem Rq_aret {M : Mi} {d : Nat} {pc : Nat} {ls : List Value} {h : Hp} {Q : Option Value → Hp → Prop} {a : Nat} {ty : FieldType} (hd : decode M.2.1 pc = .ok (.areturn, 1)) (hr : M.2.2.2 = some ty) (hty : (∃ n, ty = .object n) ∨ ∃ t, ty = .array t) (q : Q (some (.ref a)) h) : Rq M d pc ls [.ref a] h Q :=
  ⟨_, _, q, Rx_aret hd hr hty⟩
theorem Rq_callV {M : Mi} {M' : Mi} {d : Nat} {pc : Nat} {ls : List Value} {st : List Value} {h : Hp} {h1 : Hp} {Q : Option Value → Hp → Prop} {idx n a ci : Nat} {fs rest : List Value} {v : Value} (As : List Value) (hd : decode M.2.1 pc = .ok (.invokevirtual idx, 3)) (hl : CLv M.1.cls idx M' n) (hci : vwCl[ci]?.map (fun q => q.1) = some M'.1.cls) (hrec : h[a]? = some (.inr (ci, fs))) (hM : Mx M' d (.ref a :: As) h (some v) h1) (hn : As.length = n) (hst : As.reverse ++ .ref a :: rest = st) (hroom : Nat.ble (rest.map fun v => v.category).sum 8 = true) (K : Rq M (d + 1) (pc + 3) ls (v :: rest) h1 Q) : Rq M (d + 1) pc ls st h Q := by
  obtain ⟨r, h', q, K⟩ := K
  exact ⟨r, h', q, Rx_callV As hd hl hci hrec hM hn hst hroom K⟩
theorem Rq_callVv {M : Mi} {M' : Mi} {d : Nat} {pc : Nat} {ls : List Value} {st : List Value} {h : Hp} {h1 : Hp} {Q : Option Value → Hp → Prop} {idx n a ci : Nat} {fs rest : List Value} (As : List Value) (hd : decode M.2.1 pc = .ok (.invokevirtual idx, 3)) (hl : CLv M.1.cls idx M' n) (hci : vwCl[ci]?.map (fun q => q.1) = some M'.1.cls) (hrec : h[a]? = some (.inr (ci, fs))) (hM : Mx M' d (.ref a :: As) h none h1) (hn : As.length = n) (hst : As.reverse ++ .ref a :: rest = st) (hroom : Nat.ble (rest.map fun v => v.category).sum 8 = true) (K : Rq M (d + 1) (pc + 3) ls rest h1 Q) : Rq M (d + 1) pc ls st h Q := by
  obtain ⟨r, h', q, K⟩ := K
  exact ⟨r, h', q, Rx_callVv As hd hl hci hrec hM hn hst hroom K⟩
theorem Rq_callS {M : Mi} {M' : Mi} {d : Nat} {pc : Nat} {ls : List Value} {st : List Value} {h : Hp} {h1 : Hp} {Q : Option Value → Hp → Prop} {idx n : Nat} {rest : List Value} {v : Value} (As : List Value) (hd : decode M.2.1 pc = .ok (.invokestatic idx, 3)) (hl : CLs M.1.cls idx M' n) (hM : Mx M' d As h (some v) h1) (hn : As.length = n) (hst : As.reverse ++ rest = st) (hroom : Nat.ble (rest.map fun v => v.category).sum 8 = true) (K : Rq M (d + 1) (pc + 3) ls (v :: rest) h1 Q) : Rq M (d + 1) pc ls st h Q := by
  obtain ⟨r, h', q, K⟩ := K
  exact ⟨r, h', q, Rx_callS As hd hl hM hn hst hroom K⟩
theorem Rq_callSv {M : Mi} {M' : Mi} {d : Nat} {pc : Nat} {ls : List Value} {st : List Value} {h : Hp} {h1 : Hp} {Q : Option Value → Hp → Prop} {idx n : Nat} {rest : List Value} (As : List Value) (hd : decode M.2.1 pc = .ok (.invokestatic idx, 3)) (hl : CLs M.1.cls idx M' n) (hM : Mx M' d As h none h1) (hn : As.length = n) (hst : As.reverse ++ rest = st) (hroom : Nat.ble (rest.map fun v => v.category).sum 8 = true) (K : Rq M (d + 1) (pc + 3) ls rest h1 Q) : Rq M (d + 1) pc ls st h Q := by
  obtain ⟨r, h', q, K⟩ := K
  exact ⟨r, h', q, Rx_callSv As hd hl hM hn hst hroom K⟩
theorem Rq_callI {M : Mi} {M' : Mi} {d : Nat} {pc : Nat} {ls : List Value} {st : List Value} {h : Hp} {h1 : Hp} {Q : Option Value → Hp → Prop} {idx n a : Nat} {rest : List Value} (As : List Value) (hd : decode M.2.1 pc = .ok (.invokespecial idx, 3)) (hl : CLi M.1.cls idx M' n) (hM : Mx M' d (.ref a :: As) h none h1) (hn : As.length = n) (hst : As.reverse ++ .ref a :: rest = st) (hroom : Nat.ble (rest.map fun v => v.category).sum 8 = true) (K : Rq M (d + 1) (pc + 3) ls rest h1 Q) : Rq M (d + 1) pc ls st h Q := by
  obtain ⟨r, h', q, K⟩ := K
  exact ⟨r, h', q, Rx_callI As hd hl hM hn hst hroom K⟩
theorem Rq_objInit {M : Mi} {d : Nat} {pc : Nat} {ls : List Value} {h : Hp} {Q : Option Value → Hp → Prop} {idx a : Nat} {rest : List Value} (hd : decode M.2.1 pc = .ok (.invokespecial idx, 3)) (hl : Cond.methodLink M.1.cls idx objectInit ∈ gtbl) (h2 : Cond.instanceMethod objectInit ∈ gtbl) (h3 : Cond.code objectInit ⟨#[0xb1]⟩ 1 none ∈ gtbl) (hroom : Nat.ble (rest.map fun v => v.category).sum 8 = true) (K : Rq M (d + 1) (pc + 3) ls rest h Q) : Rq M (d + 1) pc ls (.ref a :: rest) h Q := by
  obtain ⟨r, h', q, K⟩ := K
  exact ⟨r, h', q, Rx_objInit hd hl h2 h3 hroom K⟩
theorem Rq_mmax {M : Mi} {d : Nat} {pc : Nat} {ls : List Value} {h : Hp} {Q : Option Value → Hp → Prop} {idx : Nat} {x y : Int32} {rest : List Value} (hd : decode M.2.1 pc = .ok (.invokestatic idx, 3)) (hl : Cond.methodLink M.1.cls idx Lib.Math.max.name ∈ gtbl) (h1 : Cond.static Lib.Math.max.name ∈ gtbl) (h2 : Cond.initialized "java/lang/Math" ∈ gtbl) (h3 : Cond.code Lib.Math.max.name Lib.Math.max.code 2 (some .int) ∈ gtbl) (hroom : Nat.ble (rest.map fun v => v.category).sum 8 = true) (K : Rq M (d + 1) (pc + 3) ls (.int (if x < y then y else x) :: rest) h Q) : Rq M (d + 1) pc ls (.int y :: .int x :: rest) h Q := by
  obtain ⟨r, h', q, K⟩ := K
  exact ⟨r, h', q, Rx_mmax hd hl h1 h2 h3 hroom K⟩
theorem Rq_mmin {M : Mi} {d : Nat} {pc : Nat} {ls : List Value} {h : Hp} {Q : Option Value → Hp → Prop} {idx : Nat} {x y : Int32} {rest : List Value} (hd : decode M.2.1 pc = .ok (.invokestatic idx, 3)) (hl : Cond.methodLink M.1.cls idx Lib.Math.min.name ∈ gtbl) (h1 : Cond.static Lib.Math.min.name ∈ gtbl) (h2 : Cond.initialized "java/lang/Math" ∈ gtbl) (h3 : Cond.code Lib.Math.min.name Lib.Math.min.code 2 (some .int) ∈ gtbl) (hroom : Nat.ble (rest.map fun v => v.category).sum 8 = true) (K : Rq M (d + 1) (pc + 3) ls (.int (if y < x then y else x) :: rest) h Q) : Rq M (d + 1) pc ls (.int y :: .int x :: rest) h Q := by
  obtain ⟨r, h', q, K⟩ := K
  exact ⟨r, h', q, Rx_mmin hd hl h1 h2 h3 hroom K⟩
theorem Rq_acopy {M : Mi} {d pc : Nat} {ls : List Value} {h : Hp} {Q : Option Value → Hp → Prop} {idx a0 a1 n0 n1 : Nat} {f g : Nat → Int32} {x y z : Int32} {rest : List Value} (sp dp n : Nat) (hd : decode M.2.1 pc = .ok (.invokestatic idx, 3)) (hl : Cond.methodLink M.1.cls idx arraycopyName ∈ gtbl) (h1 : Cond.native arraycopyName ∈ gtbl) (h2 : Cond.static arraycopyName ∈ gtbl) (h3 : Cond.initialized "java/lang/System" ∈ gtbl)
    (ha0 : h[a0]? = some (aI n0 f)) (ha1 : h[a1]? = some (aI n1 g)) (e0 : n0 < 2 ^ 31) (e1 : n1 < 2 ^ 31) (hx : x = nI sp) (hy : y = nI dp) (hz : z = nI n) (g0 : sp + n ≤ n0) (g1 : dp + n ≤ n1) (hroom : Nat.ble (rest.map fun v => v.category).sum 8 = true) (K : Rq M (d + 1) (pc + 3) ls rest (h.set a1 (aI n1 (va_cpy f g sp dp n))) Q) : Rq M (d + 1) pc ls (.int z :: .int y :: .ref a1 :: .int x :: .ref a0 :: rest) h Q := by
  obtain ⟨r, h', q, K⟩ := K
  exact ⟨r, h', q, Rx_acopy sp dp n hd hl h1 h2 h3 ha0 ha1 e0 e1 hx hy hz g0 g1 hroom K⟩
theorem Rq_callVq {M M' : Mi} {d pc : Nat} {ls st : List Value} {h : Hp} {Q Q' : Option Value → Hp → Prop} {idx n a ci : Nat} {fs rest : List Value} (As : List Value) (hd : decode M.2.1 pc = .ok (.invokevirtual idx, 3)) (hl : CLv M.1.cls idx M' n) (hci : vwCl[ci]?.map (fun q => q.1) = some M'.1.cls) (hrec : h[a]? = some (.inr (ci, fs))) (hM : Mq M' d (.ref a :: As) h Q') (hn : As.length = n) (hst : As.reverse ++ .ref a :: rest = st) (hroom : Nat.ble (rest.map fun v => v.category).sum 8 = true) (K : ∀ rv h1, Q' rv h1 → Rq M (d + 1) (pc + 3) ls (rv.toList ++ rest) h1 Q) : Rq M (d + 1) pc ls st h Q := by
  obtain ⟨rv, h1, q1, hM⟩ := hM
  obtain ⟨r, h', q, K⟩ := K rv h1 q1
  exact ⟨r, h', q, Rx_runV hd hl hci hrec hM hn hst hroom K⟩
theorem Rq_callSq {M M' : Mi} {d pc : Nat} {ls st : List Value} {h : Hp} {Q Q' : Option Value → Hp → Prop} {idx n : Nat} {rest : List Value} (As : List Value) (hd : decode M.2.1 pc = .ok (.invokestatic idx, 3)) (hl : CLs M.1.cls idx M' n) (hM : Mq M' d As h Q') (hn : As.length = n) (hst : As.reverse ++ rest = st) (hroom : Nat.ble (rest.map fun v => v.category).sum 8 = true) (K : ∀ rv h1, Q' rv h1 → Rq M (d + 1) (pc + 3) ls (rv.toList ++ rest) h1 Q) : Rq M (d + 1) pc ls st h Q := by
  obtain ⟨rv, h1, q1, hM⟩ := hM
  obtain ⟨r, h', q, K⟩ := K rv h1 q1
  exact ⟨r, h', q, Rx_runS hd hl hM hn hst hroom K⟩
