/-! the reference's shareBits -/
theorem Rx_f2i {M : Mi} {d pc : Nat} {ls st : List Value} {h : Hp} {r : Option Value} {h' : Hp} {idx : Nat} {x : UInt32} (hd : decode M.2.1 pc = .ok (.invokestatic idx, 3)) (hl : Cond.methodLink M.1.cls idx ⟨"java/lang/Float", "floatToRawIntBits", "(F)I"⟩ ∈ gtbl) (hroom : (st.map fun v => v.category).sum ≤ 8) (K : Rx M (d + 1) (pc + 3) ls (.int x.toInt32 :: st) h r h') : Rx M (d + 1) pc ls (.float x :: st) h r h' :=
  K.step (fun {p l e R s m args below meth c D cA b H locs cells slots LS Q} C hR _ hlr k => vn_f2i C.1 C.2.1 (C.2.2.1.trans hlr.1.symm) C.2.2.2.2.2.2.1 (C.2.2.2.2.2.2.2.1 _ hl) (C.2.2.2.2.2.2.2.1 _ (gt_at 1036 (by decide +kernel) (by decide +kernel))) (C.2.2.2.2.2.2.2.1 _ (gt_at 1035 (by decide +kernel) (by decide +kernel))) (C.2.2.2.2.2.2.2.1 _ (gt_at 95 (by decide +kernel) (by decide +kernel))) (by have := hR.1; omega) (by have := hR.2.1; rw [cat_sum]; omega) hd k)
def fSh (m : Nat) : UInt32 := FP.fdiv (FP.i2f (nI m)) 1149239296
theorem fSh_ok : ∀ m, m < 1025 → Op.cmpValue (FP.fcmp (fSh m) (fSh m)) .l = 0 := by decide +kernel
theorem fSh_n : ∀ m, m < 1025 → vf_n32 (fSh m) := by
  unfold vf_n32
  decide +kernel
theorem fSh_b : ∀ m, m < 1025 → (fSh m).toInt32 = shB (nI m) := by decide +kernel
/-- a method's head in a class that has natives of its own -/
theorem Met.ofN {l : Launch} {y : MethodName} {ws ws' : List Cond} {rm : Room} {Pc : Array Value → State → Prop} {Qc : Array Value → State → Outcome → State → Prop} {mc ms : Nat} {free : Addr → Prop} {cc : ByteArray} {maxL : Nat} {ret : Option FieldType}
    (hy : plainFor y = true) (hw : ws = Cond.code y cc maxL ret :: ws')
    (body : ∀ p e s m args below meth c s₁, BodyLoose p l y (headSpec ws rm) cc maxL ret e s m args below meth c s₁ → c.maxLocals = maxL → Pc args s →
      W p l e (headSpec ws rm).room s m args below meth c s.heap [] 0 0 (MQ below Qc args s mc ms free) (entryFrame m args maxL)) : Met l y ws rm Pc Qc mc ms free := by
  refine MetFree.of_bodySF (code := cc) (maxLocals := maxL) (ret := ret) hy (fun args s m h hn => ?_) (fun p e s m args below meth c s₁ B hml hP _ => ?_)
  · obtain ⟨meth, c, h1, h2, h3, h4, h5, h6, -⟩ := Cond.code_spec hn (atoms_spec (ws := ws) h _ (by rw [hw]; exact List.mem_cons_self))
    exact ⟨meth, c, h1, h2, h3, h4, h5, h6⟩
  · obtain ⟨t, a1, o, b1, b2, b3⟩ := body p e s m args below meth c s₁ B hml hP s₁ (by rw [B.state]; rfl) (Stand.of_body B)
    exact ⟨t, o, a1, b1, b2, b3.1, b3.2⟩
theorem Mx_ofN {M : Mi} {d : Nat} {as : List Value} {h : Hp} {r : Option Value} {h' : Hp} (ls : List Value) (hp : plainFor M.1 = true) (hen : Nat.ble (ent as).length M.2.2.1 = true) (hls : pad M.2.2.1 (ent as) = ls) (K : Rx M d 0 ls [] h r h') : Mx M d as h r h' := by
  subst hls
  obtain ⟨k1, k2, k3⟩ := K
  refine ⟨k1, k2, fun l D cA b => ?_⟩
  refine Met.ofN (cc := M.2.1) (maxL := M.2.2.1) (ret := M.2.2.2) hp rfl ?_
  intro p e s m args below meth c s₁ B hml hv
  obtain ⟨rfl, hP, hsz, hK, hN⟩ := hv
  have hts := atoms_spec (ws := wsM M) B.pre
  have hl := lv_entry (as.map (mp b)) (n := M.2.2.1) (by rw [ent_len]; exact Nat.le_of_ble_eq_true hen)
  rw [lg_entry_eq]
  generalize (lg_sl (as.map (mp b)) ++ List.replicate (M.2.2.1 - (lg_sl (as.map (mp b))).length) Slot.unset).toArray = LS at hl ⊢
  have C : Cx M p s m (as.map (mp b)).toArray meth c D cA b := ⟨B.exec, B.bytes, hml, B.returns, B.notSynchronized, (name_of_methodNamed B.named B.method).1, findClass_of_methodNamed B.named, fun w hw => hts w (List.mem_cons_of_mem _ hw), hK, hN⟩
  have hL : LR b M.2.2.1 LS (pad M.2.2.1 (ent as)) := ⟨hl.1, hl.2.1, fun k v hk hj => by
    have := hl.2.2 _ (ent_args b as 0 k v (lat_pad hk hj) hj)
    rwa [Nat.zero_add] at this⟩
  have kk := k3 p l e (rmx d h h') s m (as.map (mp b)).toArray below meth c D cA b s.heap [] 0 0 LS C ⟨Nat.le_refl _, Nat.le_refl _, by simp [rmx], by simp [rmx]⟩ ⟨hP, hsz, va_S.rf, by omega, rfl⟩ hL
  rw [Nat.zero_add, Nat.zero_add] at kk
  exact kk
section RF
variable {h : Hp} {S V er tx : Nat → Int32} {n sm tn : Nat}
theorem rp_isNaN (d : Nat) {x : UInt32} (hx : Op.cmpValue (FP.fcmp x x) .l = 0) : Mx mJxf58ca_isNaN_12338 d [.float x] h (some (.int 0)) h := by
  refine Mx_ofN [_] (by decide +kernel) rfl rfl ?_
  refine Rx_fload_n dJxf58ca_isNaN_12338_0 rfl ?_
  refine Rx_fload_n dJxf58ca_isNaN_12338_1 rfl ?_
  refine Rx_fcmp dJxf58ca_isNaN_12338_2 ?_
  refine Rx_if_eq_t 10 dJxf58ca_isNaN_12338_3 (by decide) hx ?_
  refine Rx_iconst (0) dJxf58ca_isNaN_12338_10 (by decide) ?_
  exact Rx_zret dJxf58ca_isNaN_12338_11 rfl (by decide)
theorem rp_f2i (d : Nat) {x : UInt32} (hx : Op.cmpValue (FP.fcmp x x) .l = 0) : Mx mJxf58ca_floatToIntBits_5c35a (d + 1) [.float x] h (some (.int x.toInt32)) h := by
  refine Mx_ofN [_] (by decide +kernel) rfl rfl ?_
  refine Rx_fload_n dJxf58ca_floatToIntBits_5c35a_0 rfl ?_
  refine Rx_callS [_] dJxf58ca_floatToIntBits_5c35a_1 clJxf58ca_59 (rp_isNaN d hx) rfl rfl rfl ?_
  refine Rx_if_ne_f 12 dJxf58ca_floatToIntBits_5c35a_4 (by decide) rfl ?_
  refine Rx_fload_n dJxf58ca_floatToIntBits_5c35a_7 rfl ?_
  refine Rx_f2i dJxf58ca_floatToIntBits_5c35a_8 (gt_at 1034 (by decide +kernel) (by decide +kernel)) (by decide) ?_
  exact Rx_iret dJxf58ca_floatToIntBits_5c35a_11 rfl
theorem rx_share (d : Nat) (x : RI h S V er tx n sm tn) (hb : rBy S n 0 < 1025) : Mq mX9_shareBits (d + 4) [.ref 43] h (qR h S V er tx n sm tn (.int (shB (nI (rBy S n 0))))) := by
  obtain ⟨ic, nm, rm, hf, ht, rt, mm, il, sp, rdm, k43, -⟩ := x.k43
  refine Mq_of [_] (by decide +kernel) rfl rfl ?_
  refine Rq_aload_n dX9_shareBits_0 rfl ?_
  refine Rq_callVq [] dX9_shareBits_1 clX9_182 rfl k43 (rx_models d x) rfl rfl rfl (fun rv h1 hq => ?_)
  obtain ⟨rfl, y⟩ := hq
  have e1 := fSh_ok _ hb
  have e2 := fSh_n _ hb
  have e3 := fSh_b _ hb
  unfold fSh at e1 e2 e3
  refine Rq_i2f dX9_shareBits_4 ?_
  refine Rq_ldcf dX9_shareBits_5 kcX9_185 ?_
  refine Rq_fdiv dX9_shareBits_7 e2 ?_
  refine Rq_callS [_] dX9_shareBits_8 clX9_186 (rp_f2i (d + 2) e1) rfl rfl rfl ?_
  refine Rq_iret dX9_shareBits_11 rfl ?_
  exact ⟨by rw [e3], y⟩
end RF
