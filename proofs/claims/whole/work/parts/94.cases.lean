/-! the law's cases -/
theorem li_cap {h : Hp} (x : LI h) (g : Gz HA h) : h.length ≤ 600000 ∧ hsz h ≤ 7302250 := by
  obtain ⟨n, as, cs, w, k, sv, er, tn, tx, S, V, ci, -⟩ := x
  obtain ⟨gf, mf, h0, s, hn, hi, hk, hsv, ti, rd, cg, -⟩ := ci
  obtain ⟨f, heads, ct, rs, rd, dt, at', ht, hf, nr, nz, nd, nn, cap, NR, NZ, ND, NN, a1, a2, a3, a4, hc, ho, hne, l1, l2, l3⟩ := cg.x
  have l4 : h.length ≤ 78 := by
    refine Nat.le_trans l2 ?_
    unfold lbC
    split
    · decide
    · split
      · decide
      · split
        · decide
        · split <;> decide
  obtain ⟨t, ht⟩ := g
  have tl : t.length + 62 = h.length := by
    have := congrArg List.length ht
    rw [List.length_map, List.length_append, List.length_map, HA_len] at this
    omega
  have tv : ∀ x ∈ t, x ≤ 16384 := by
    intro x hx
    obtain ⟨i, hi, e⟩ := List.mem_iff_getElem.mp hx
    have e1 : (h.map esz)[62 + i]? = some x := by
      rw [ht, List.getElem?_append_right (by rw [List.length_map, HA_len]; omega), List.length_map, HA_len, Nat.add_sub_cancel_left, List.getElem?_eq_getElem hi, e]
    rw [List.getElem?_map] at e1
    cases e2 : h[62 + i]? with
    | none => rw [e2] at e1; cases e1
    | some z =>
      rw [e2] at e1
      have e3 := l3 (62 + i) z (by omega) e2
      have e4 : esz z = x := Option.some.inj e1
      omega
  have ts : ∀ t : List Nat, (∀ x ∈ t, x ≤ 16384) → t.sum ≤ 16384 * t.length := by
    intro t
    induction t with
    | nil => exact fun _ => Nat.le_refl _
    | cons a t ih =>
      intro hx
      have h1 := hx a List.mem_cons_self
      have h2 := ih (fun x hx' => hx x (List.mem_cons_of_mem _ hx'))
      rw [List.sum_cons, List.length_cons]
      omega
  have sA : hsz HA ≤ 200000 := by decide +kernel
  have e5 : hsz h = hsz HA + t.sum := by
    unfold hsz
    rw [ht, List.sum_append]
  have := ts t tv
  omega
section LR
variable {p : Program} {l : Launch} {e : Env} {s : State} {m : MethodId} {below : List Frame} {meth : Method} {c : Code} {D : va_G} {cA : Nat → ClassId} {scr L : Nat} {xs : Nat → Int32} {h : Hp}
abbrev lvF (s : State) (scr : Nat) (i : Int32) : List (Nat × Value) := [(3, .int i), (2, .ref (s.heap.size + 43)), (1, .ref (s.heap.size + 0)), (0, .ref scr)]
theorem li_0 (x : LI h) : ∃ ob, h[0]? = some (.inr (8, ob)) := by
  obtain ⟨n, as, cs, w, k, sv, er, tn, tx, S, V, ⟨gf, mf, h0, -⟩, -⟩ := x
  exact ⟨_, h0⟩
theorem lcase_0 {i : Nat} (C : LC p s m meth c D cA scr L xs) (hL : L < 2 ^ 31) (hi : i + 5 ≤ L) (x : LI h) (gz : Gz HA h) (K : ∀ h2, LI h2 → Gz HA h2 → LW p l e s m below meth c D cA scr (lvF s scr (nI i)) 642 [] h2) : LW p l e s m below meth c D cA scr (lvF s scr (nI i)) 152 [] h := by
  obtain ⟨ob, hcl⟩ := li_0 x
  refine LW_aload (a := 0) (j := 2) C dL_152 rfl rfl ?_
  refine LW_ld (a := 3) (b := 0) (j := i + 1) C dL_153 dL_154 dL_155 dL_156 dL_157 rfl rfl (nI_add i 1) (by omega) hL ?_
  refine LW_ld (a := 3) (b := 0) (j := i + 2) C dL_158 dL_159 dL_160 dL_161 dL_162 rfl rfl (nI_add i 2) (by omega) hL ?_
  refine LW_ld (a := 3) (b := 0) (j := i + 3) C dL_163 dL_164 dL_165 dL_166 dL_167 rfl rfl (nI_add i 3) (by omega) hL ?_
  refine LW_ld (a := 3) (b := 0) (j := i + 4) C dL_168 dL_169 dL_170 dL_171 dL_172 rfl rfl (nI_add i 4) (by omega) hL ?_
  refine LW_pair (As := [.int (xs (i + 1)), .int (xs (i + 2)), .int (xs (i + 3)), .int (xs (i + 4))]) (pc9 := 197) C hcl (pr_add (xs (i + 1)) (xs (i + 2)) (xs (i + 3)) (xs (i + 4)) x) gz (fun h2 a b => li_cap a b) dL_173 clL_13 rfl rfl dL_197 clL_17 rfl rfl (fun v h1 hv k => ?_) (fun v h2 hv li g => ?_) (fun v hv => by obtain ⟨y, rfl⟩ := hv; rfl)
  · refine LW_aload (a := 43) (j := 1) C dL_176 rfl rfl ?_
    refine LW_ld (a := 3) (b := 0) (j := i + 1) C dL_177 dL_178 dL_179 dL_180 dL_181 rfl rfl (nI_add i 1) (by omega) hL ?_
    refine LW_ld (a := 3) (b := 0) (j := i + 2) C dL_182 dL_183 dL_184 dL_185 dL_186 rfl rfl (nI_add i 2) (by omega) hL ?_
    refine LW_ld (a := 3) (b := 0) (j := i + 3) C dL_187 dL_188 dL_189 dL_190 dL_191 rfl rfl (nI_add i 3) (by omega) hL ?_
    refine LW_ld (a := 3) (b := 0) (j := i + 4) C dL_192 dL_193 dL_194 dL_195 dL_196 rfl rfl (nI_add i 4) (by omega) hL ?_
    exact k
  · obtain ⟨y, rfl⟩ := hv
    exact LW_eq 642 C dL_200 (by decide) (K h2 li g)
theorem lcase_1 {i : Nat} (C : LC p s m meth c D cA scr L xs) (hL : L < 2 ^ 31) (hi : i + 5 ≤ L) (x : LI h) (gz : Gz HA h) (K : ∀ h2, LI h2 → Gz HA h2 → LW p l e s m below meth c D cA scr (lvF s scr (nI i)) 642 [] h2) : LW p l e s m below meth c D cA scr (lvF s scr (nI i)) 205 [] h := by
  obtain ⟨ob, hcl⟩ := li_0 x
  refine LW_aload (a := 0) (j := 2) C dL_205 rfl rfl ?_
  refine LW_ld (a := 3) (b := 0) (j := i + 1) C dL_206 dL_207 dL_208 dL_209 dL_210 rfl rfl (nI_add i 1) (by omega) hL ?_
  refine LW_pair (As := [.int (xs (i + 1))]) (pc9 := 220) C hcl (pr_rem (xs (i + 1)) x) gz (fun h2 a b => li_cap a b) dL_211 clL_18 rfl rfl dL_220 clL_22 rfl rfl (fun v h1 hv k => ?_) (fun v h2 hv li g => ?_) (fun v hv => by obtain ⟨y, rfl⟩ := hv; rfl)
  · refine LW_aload (a := 43) (j := 1) C dL_214 rfl rfl ?_
    refine LW_ld (a := 3) (b := 0) (j := i + 1) C dL_215 dL_216 dL_217 dL_218 dL_219 rfl rfl (nI_add i 1) (by omega) hL ?_
    exact k
  · obtain ⟨y, rfl⟩ := hv
    exact LW_eq 642 C dL_223 (by decide) (K h2 li g)
theorem lcase_2 {i : Nat} (C : LC p s m meth c D cA scr L xs) (hL : L < 2 ^ 31) (hi : i + 5 ≤ L) (x : LI h) (gz : Gz HA h) (K : ∀ h2, LI h2 → Gz HA h2 → LW p l e s m below meth c D cA scr (lvF s scr (nI i)) 642 [] h2) : LW p l e s m below meth c D cA scr (lvF s scr (nI i)) 228 [] h := by
  obtain ⟨ob, hcl⟩ := li_0 x
  refine LW_aload (a := 0) (j := 2) C dL_228 rfl rfl ?_
  refine LW_pair (As := []) (pc9 := 233) C hcl (pr_cls  x) gz (fun h2 a b => li_cap a b) dL_229 clL_23 rfl rfl dL_233 clL_27 rfl rfl (fun v h1 hv k => ?_) (fun v h2 hv li g => ?_) (fun v hv => by obtain ⟨y, rfl⟩ := hv; rfl)
  · refine LW_aload (a := 43) (j := 1) C dL_232 rfl rfl ?_
    exact k
  · obtain ⟨y, rfl⟩ := hv
    exact LW_eq 642 C dL_236 (by decide) (K h2 li g)
theorem lcase_3 {i : Nat} (C : LC p s m meth c D cA scr L xs) (hL : L < 2 ^ 31) (hi : i + 5 ≤ L) (x : LI h) (gz : Gz HA h) (K : ∀ h2, LI h2 → Gz HA h2 → LW p l e s m below meth c D cA scr (lvF s scr (nI i)) 642 [] h2) : LW p l e s m below meth c D cA scr (lvF s scr (nI i)) 241 [] h := by
  obtain ⟨ob, hcl⟩ := li_0 x
  refine LW_aload (a := 0) (j := 2) C dL_241 rfl rfl ?_
  refine LW_ld (a := 3) (b := 0) (j := i + 1) C dL_242 dL_243 dL_244 dL_245 dL_246 rfl rfl (nI_add i 1) (by omega) hL ?_
  refine LW_pair (As := [.int (xs (i + 1))]) (pc9 := 256) C hcl (pr_size (xs (i + 1)) x) gz (fun h2 a b => li_cap a b) dL_247 clL_28 rfl rfl dL_256 clL_31 rfl rfl (fun v h1 hv k => ?_) (fun v h2 hv li g => ?_) (fun v hv => by obtain ⟨y, rfl⟩ := hv; rfl)
  · refine LW_aload (a := 43) (j := 1) C dL_250 rfl rfl ?_
    refine LW_ld (a := 3) (b := 0) (j := i + 1) C dL_251 dL_252 dL_253 dL_254 dL_255 rfl rfl (nI_add i 1) (by omega) hL ?_
    exact k
  · obtain ⟨y, rfl⟩ := hv
    exact LW_eq 642 C dL_259 (by decide) (K h2 li g)
theorem lcase_4 {i : Nat} (C : LC p s m meth c D cA scr L xs) (hL : L < 2 ^ 31) (hi : i + 5 ≤ L) (x : LI h) (gz : Gz HA h) (K : ∀ h2, LI h2 → Gz HA h2 → LW p l e s m below meth c D cA scr (lvF s scr (nI i)) 642 [] h2) : LW p l e s m below meth c D cA scr (lvF s scr (nI i)) 264 [] h := by
  obtain ⟨ob, hcl⟩ := li_0 x
  refine LW_aload (a := 0) (j := 2) C dL_264 rfl rfl ?_
  refine LW_ld (a := 3) (b := 0) (j := i + 1) C dL_265 dL_266 dL_267 dL_268 dL_269 rfl rfl (nI_add i 1) (by omega) hL ?_
  refine LW_pair (As := [.int (xs (i + 1))]) (pc9 := 279) C hcl (pr_asm (xs (i + 1)) x) gz (fun h2 a b => li_cap a b) dL_270 clL_32 rfl rfl dL_279 clL_35 rfl rfl (fun v h1 hv k => ?_) (fun v h2 hv li g => ?_) (fun v hv => by obtain ⟨y, rfl⟩ := hv; rfl)
  · refine LW_aload (a := 43) (j := 1) C dL_273 rfl rfl ?_
    refine LW_ld (a := 3) (b := 0) (j := i + 1) C dL_274 dL_275 dL_276 dL_277 dL_278 rfl rfl (nI_add i 1) (by omega) hL ?_
    exact k
  · obtain ⟨y, rfl⟩ := hv
    exact LW_eq 642 C dL_282 (by decide) (K h2 li g)
theorem lcase_5 {i : Nat} (C : LC p s m meth c D cA scr L xs) (hL : L < 2 ^ 31) (hi : i + 5 ≤ L) (x : LI h) (gz : Gz HA h) (K : ∀ h2, LI h2 → Gz HA h2 → LW p l e s m below meth c D cA scr (lvF s scr (nI i)) 642 [] h2) : LW p l e s m below meth c D cA scr (lvF s scr (nI i)) 287 [] h := by
  obtain ⟨ob, hcl⟩ := li_0 x
  refine LW_aload (a := 0) (j := 2) C dL_287 rfl rfl ?_
  refine LW_pair (As := []) (pc9 := 292) C hcl (pr_ret  x) gz (fun h2 a b => li_cap a b) dL_288 clL_36 rfl rfl dL_292 clL_39 rfl rfl (fun v h1 hv k => ?_) (fun v h2 hv li g => ?_) (fun v hv => by obtain ⟨y, rfl⟩ := hv; rfl)
  · refine LW_aload (a := 43) (j := 1) C dL_291 rfl rfl ?_
    exact k
  · obtain ⟨y, rfl⟩ := hv
    exact LW_eq 642 C dL_295 (by decide) (K h2 li g)
theorem lcase_6 {i : Nat} (C : LC p s m meth c D cA scr L xs) (hL : L < 2 ^ 31) (hi : i + 5 ≤ L) (x : LI h) (gz : Gz HA h) (K : ∀ h2, LI h2 → Gz HA h2 → LW p l e s m below meth c D cA scr (lvF s scr (nI i)) 642 [] h2) : LW p l e s m below meth c D cA scr (lvF s scr (nI i)) 300 [] h := by
  obtain ⟨ob, hcl⟩ := li_0 x
  refine LW_aload (a := 0) (j := 2) C dL_300 rfl rfl ?_
  refine LW_ld (a := 3) (b := 0) (j := i + 1) C dL_301 dL_302 dL_303 dL_304 dL_305 rfl rfl (nI_add i 1) (by omega) hL ?_
  refine LW_ld (a := 3) (b := 0) (j := i + 2) C dL_306 dL_307 dL_308 dL_309 dL_310 rfl rfl (nI_add i 2) (by omega) hL ?_
  refine LW_pair (As := [.int (xs (i + 1)), .int (xs (i + 2))]) (pc9 := 325) C hcl (pr_wt (xs (i + 1)) (xs (i + 2)) x) gz (fun h2 a b => li_cap a b) dL_311 clL_40 rfl rfl dL_325 clL_44 rfl rfl (fun v h1 hv k => ?_) (fun v h2 hv li g => ?_) (fun v hv => by obtain ⟨y, rfl⟩ := hv; rfl)
  · refine LW_aload (a := 43) (j := 1) C dL_314 rfl rfl ?_
    refine LW_ld (a := 3) (b := 0) (j := i + 1) C dL_315 dL_316 dL_317 dL_318 dL_319 rfl rfl (nI_add i 1) (by omega) hL ?_
    refine LW_ld (a := 3) (b := 0) (j := i + 2) C dL_320 dL_321 dL_322 dL_323 dL_324 rfl rfl (nI_add i 2) (by omega) hL ?_
    exact k
  · obtain ⟨y, rfl⟩ := hv
    exact LW_eq 642 C dL_328 (by decide) (K h2 li g)
theorem lcase_7 {i : Nat} (C : LC p s m meth c D cA scr L xs) (hL : L < 2 ^ 31) (hi : i + 5 ≤ L) (x : LI h) (gz : Gz HA h) (K : ∀ h2, LI h2 → Gz HA h2 → LW p l e s m below meth c D cA scr (lvF s scr (nI i)) 642 [] h2) : LW p l e s m below meth c D cA scr (lvF s scr (nI i)) 333 [] h := by
  obtain ⟨ob, hcl⟩ := li_0 x
  refine LW_aload (a := 0) (j := 2) C dL_333 rfl rfl ?_
  refine LW_pair (As := []) (pc9 := 338) C hcl (pr_nodes  x) gz (fun h2 a b => li_cap a b) dL_334 clL_45 rfl rfl dL_338 clL_48 rfl rfl (fun v h1 hv k => ?_) (fun v h2 hv li g => ?_) (fun v hv => by obtain ⟨y, rfl⟩ := hv; rfl)
  · refine LW_aload (a := 43) (j := 1) C dL_337 rfl rfl ?_
    exact k
  · obtain ⟨y, rfl⟩ := hv
    exact LW_eq 642 C dL_341 (by decide) (K h2 li g)
theorem lcase_8 {i : Nat} (C : LC p s m meth c D cA scr L xs) (hL : L < 2 ^ 31) (hi : i + 5 ≤ L) (x : LI h) (gz : Gz HA h) (K : ∀ h2, LI h2 → Gz HA h2 → LW p l e s m below meth c D cA scr (lvF s scr (nI i)) 642 [] h2) : LW p l e s m below meth c D cA scr (lvF s scr (nI i)) 346 [] h := by
  obtain ⟨ob, hcl⟩ := li_0 x
  refine LW_aload (a := 0) (j := 2) C dL_346 rfl rfl ?_
  refine LW_pair (As := []) (pc9 := 351) C hcl (pr_dn  x) gz (fun h2 a b => li_cap a b) dL_347 clL_49 rfl rfl dL_351 clL_52 rfl rfl (fun v h1 hv k => ?_) (fun v h2 hv li g => ?_) (fun v hv => by obtain ⟨y, rfl⟩ := hv; rfl)
  · refine LW_aload (a := 43) (j := 1) C dL_350 rfl rfl ?_
    exact k
  · obtain ⟨y, rfl⟩ := hv
    exact LW_eq 642 C dL_354 (by decide) (K h2 li g)
theorem lcase_9 {i : Nat} (C : LC p s m meth c D cA scr L xs) (hL : L < 2 ^ 31) (hi : i + 5 ≤ L) (x : LI h) (gz : Gz HA h) (K : ∀ h2, LI h2 → Gz HA h2 → LW p l e s m below meth c D cA scr (lvF s scr (nI i)) 642 [] h2) : LW p l e s m below meth c D cA scr (lvF s scr (nI i)) 359 [] h := by
  obtain ⟨ob, hcl⟩ := li_0 x
  refine LW_aload (a := 0) (j := 2) C dL_359 rfl rfl ?_
  refine LW_pair (As := []) (pc9 := 364) C hcl (pr_an  x) gz (fun h2 a b => li_cap a b) dL_360 clL_53 rfl rfl dL_364 clL_56 rfl rfl (fun v h1 hv k => ?_) (fun v h2 hv li g => ?_) (fun v hv => by obtain ⟨y, rfl⟩ := hv; rfl)
  · refine LW_aload (a := 43) (j := 1) C dL_363 rfl rfl ?_
    exact k
  · obtain ⟨y, rfl⟩ := hv
    exact LW_eq 642 C dL_367 (by decide) (K h2 li g)
theorem lcase_10 {i : Nat} (C : LC p s m meth c D cA scr L xs) (hL : L < 2 ^ 31) (hi : i + 5 ≤ L) (x : LI h) (gz : Gz HA h) (K : ∀ h2, LI h2 → Gz HA h2 → LW p l e s m below meth c D cA scr (lvF s scr (nI i)) 642 [] h2) : LW p l e s m below meth c D cA scr (lvF s scr (nI i)) 372 [] h := by
  obtain ⟨ob, hcl⟩ := li_0 x
  refine LW_aload (a := 0) (j := 2) C dL_372 rfl rfl ?_
  refine LW_pair (As := []) (pc9 := 377) C hcl (pr_depth  x) gz (fun h2 a b => li_cap a b) dL_373 clL_57 rfl rfl dL_377 clL_60 rfl rfl (fun v h1 hv k => ?_) (fun v h2 hv li g => ?_) (fun v hv => by obtain ⟨y, rfl⟩ := hv; rfl)
  · refine LW_aload (a := 43) (j := 1) C dL_376 rfl rfl ?_
    exact k
  · obtain ⟨y, rfl⟩ := hv
    exact LW_eq 642 C dL_380 (by decide) (K h2 li g)
theorem lcase_11 {i : Nat} (C : LC p s m meth c D cA scr L xs) (hL : L < 2 ^ 31) (hi : i + 5 ≤ L) (x : LI h) (gz : Gz HA h) (K : ∀ h2, LI h2 → Gz HA h2 → LW p l e s m below meth c D cA scr (lvF s scr (nI i)) 642 [] h2) : LW p l e s m below meth c D cA scr (lvF s scr (nI i)) 385 [] h := by
  obtain ⟨ob, hcl⟩ := li_0 x
  refine LW_aload (a := 0) (j := 2) C dL_385 rfl rfl ?_
  refine LW_pair (As := []) (pc9 := 390) C hcl (pr_rv  x) gz (fun h2 a b => li_cap a b) dL_386 clL_61 rfl rfl dL_390 clL_64 rfl rfl (fun v h1 hv k => ?_) (fun v h2 hv li g => ?_) (fun v hv => by obtain ⟨y, rfl⟩ := hv; rfl)
  · refine LW_aload (a := 43) (j := 1) C dL_389 rfl rfl ?_
    exact k
  · obtain ⟨y, rfl⟩ := hv
    exact LW_eq 642 C dL_393 (by decide) (K h2 li g)
theorem lcase_12 {i : Nat} (C : LC p s m meth c D cA scr L xs) (hL : L < 2 ^ 31) (hi : i + 5 ≤ L) (x : LI h) (gz : Gz HA h) (K : ∀ h2, LI h2 → Gz HA h2 → LW p l e s m below meth c D cA scr (lvF s scr (nI i)) 642 [] h2) : LW p l e s m below meth c D cA scr (lvF s scr (nI i)) 398 [] h := by
  obtain ⟨ob, hcl⟩ := li_0 x
  refine LW_aload (a := 0) (j := 2) C dL_398 rfl rfl ?_
  refine LW_pair (As := []) (pc9 := 403) C hcl (pr_pt  x) gz (fun h2 a b => li_cap a b) dL_399 clL_65 rfl rfl dL_403 clL_68 rfl rfl (fun v h1 hv k => ?_) (fun v h2 hv li g => ?_) (fun v hv => by obtain ⟨y, rfl⟩ := hv; rfl)
  · refine LW_aload (a := 43) (j := 1) C dL_402 rfl rfl ?_
    exact k
  · obtain ⟨y, rfl⟩ := hv
    exact LW_eq 642 C dL_406 (by decide) (K h2 li g)
theorem lcase_13 {i : Nat} (C : LC p s m meth c D cA scr L xs) (hL : L < 2 ^ 31) (hi : i + 5 ≤ L) (x : LI h) (gz : Gz HA h) (K : ∀ h2, LI h2 → Gz HA h2 → LW p l e s m below meth c D cA scr (lvF s scr (nI i)) 642 [] h2) : LW p l e s m below meth c D cA scr (lvF s scr (nI i)) 411 [] h := by
  obtain ⟨ob, hcl⟩ := li_0 x
  refine LW_aload (a := 0) (j := 2) C dL_411 rfl rfl ?_
  refine LW_pair (As := []) (pc9 := 416) C hcl (pr_mod  x) gz (fun h2 a b => li_cap a b) dL_412 clL_69 rfl rfl dL_416 clL_72 rfl rfl (fun v h1 hv k => ?_) (fun v h2 hv li g => ?_) (fun v hv => by obtain ⟨y, rfl⟩ := hv; rfl)
  · refine LW_aload (a := 43) (j := 1) C dL_415 rfl rfl ?_
    exact k
  · obtain ⟨y, rfl⟩ := hv
    exact LW_eq 642 C dL_419 (by decide) (K h2 li g)
theorem lcase_14 {i : Nat} (C : LC p s m meth c D cA scr L xs) (hL : L < 2 ^ 31) (hi : i + 5 ≤ L) (x : LI h) (gz : Gz HA h) (K : ∀ h2, LI h2 → Gz HA h2 → LW p l e s m below meth c D cA scr (lvF s scr (nI i)) 642 [] h2) : LW p l e s m below meth c D cA scr (lvF s scr (nI i)) 424 [] h := by
  obtain ⟨ob, hcl⟩ := li_0 x
  refine LW_aload (a := 0) (j := 2) C dL_424 rfl rfl ?_
  refine LW_ld (a := 3) (b := 0) (j := i + 1) C dL_425 dL_426 dL_427 dL_428 dL_429 rfl rfl (nI_add i 1) (by omega) hL ?_
  refine LW_pair (As := [.int (xs (i + 1))]) (pc9 := 439) C hcl (pr_mw (xs (i + 1)) x) gz (fun h2 a b => li_cap a b) dL_430 clL_73 rfl rfl dL_439 clL_76 rfl rfl (fun v h1 hv k => ?_) (fun v h2 hv li g => ?_) (fun v hv => by obtain ⟨y, rfl⟩ := hv; rfl)
  · refine LW_aload (a := 43) (j := 1) C dL_433 rfl rfl ?_
    refine LW_ld (a := 3) (b := 0) (j := i + 1) C dL_434 dL_435 dL_436 dL_437 dL_438 rfl rfl (nI_add i 1) (by omega) hL ?_
    exact k
  · obtain ⟨y, rfl⟩ := hv
    exact LW_eq 642 C dL_442 (by decide) (K h2 li g)
theorem lcase_15 {i : Nat} (C : LC p s m meth c D cA scr L xs) (hL : L < 2 ^ 31) (hi : i + 5 ≤ L) (x : LI h) (gz : Gz HA h) (K : ∀ h2, LI h2 → Gz HA h2 → LW p l e s m below meth c D cA scr (lvF s scr (nI i)) 642 [] h2) : LW p l e s m below meth c D cA scr (lvF s scr (nI i)) 447 [] h := by
  obtain ⟨ob, hcl⟩ := li_0 x
  refine LW_aload (a := 0) (j := 2) C dL_447 rfl rfl ?_
  refine LW_pair (As := []) (pc9 := 452) C hcl (pr_wc  x) gz (fun h2 a b => li_cap a b) dL_448 clL_77 rfl rfl dL_452 clL_81 rfl rfl (fun v h1 hv k => ?_) (fun v h2 hv li g => ?_) (fun v hv => by obtain ⟨y, rfl⟩ := hv; rfl)
  · refine LW_aload (a := 43) (j := 1) C dL_451 rfl rfl ?_
    exact k
  · obtain ⟨y, rfl⟩ := hv
    exact LW_eqL 642 C dL_455 dL_456 (by decide) (K h2 li g)
theorem lcase_16 {i : Nat} (C : LC p s m meth c D cA scr L xs) (hL : L < 2 ^ 31) (hi : i + 5 ≤ L) (x : LI h) (gz : Gz HA h) (K : ∀ h2, LI h2 → Gz HA h2 → LW p l e s m below meth c D cA scr (lvF s scr (nI i)) 642 [] h2) : LW p l e s m below meth c D cA scr (lvF s scr (nI i)) 461 [] h := by
  obtain ⟨ob, hcl⟩ := li_0 x
  refine LW_aload (a := 0) (j := 2) C dL_461 rfl rfl ?_
  refine LW_pair (As := []) (pc9 := 466) C hcl (pr_sh  x) gz (fun h2 a b => li_cap a b) dL_462 clL_82 rfl rfl dL_466 clL_85 rfl rfl (fun v h1 hv k => ?_) (fun v h2 hv li g => ?_) (fun v hv => by obtain ⟨y, rfl⟩ := hv; rfl)
  · refine LW_aload (a := 43) (j := 1) C dL_465 rfl rfl ?_
    exact k
  · obtain ⟨y, rfl⟩ := hv
    exact LW_eq 642 C dL_469 (by decide) (K h2 li g)
theorem lcase_17 {i : Nat} (C : LC p s m meth c D cA scr L xs) (hL : L < 2 ^ 31) (hi : i + 5 ≤ L) (x : LI h) (gz : Gz HA h) (K : ∀ h2, LI h2 → Gz HA h2 → LW p l e s m below meth c D cA scr (lvF s scr (nI i)) 642 [] h2) : LW p l e s m below meth c D cA scr (lvF s scr (nI i)) 474 [] h := by
  obtain ⟨ob, hcl⟩ := li_0 x
  refine LW_aload (a := 0) (j := 2) C dL_474 rfl rfl ?_
  refine LW_ld (a := 3) (b := 0) (j := i + 1) C dL_475 dL_476 dL_477 dL_478 dL_479 rfl rfl (nI_add i 1) (by omega) hL ?_
  refine LW_pair (As := [.int (xs (i + 1))]) (pc9 := 489) C hcl (pr_im (xs (i + 1)) x) gz (fun h2 a b => li_cap a b) dL_480 clL_86 rfl rfl dL_489 clL_89 rfl rfl (fun v h1 hv k => ?_) (fun v h2 hv li g => ?_) (fun v hv => by obtain ⟨y, rfl⟩ := hv; rfl)
  · refine LW_aload (a := 43) (j := 1) C dL_483 rfl rfl ?_
    refine LW_ld (a := 3) (b := 0) (j := i + 1) C dL_484 dL_485 dL_486 dL_487 dL_488 rfl rfl (nI_add i 1) (by omega) hL ?_
    exact k
  · obtain ⟨y, rfl⟩ := hv
    exact LW_eq 642 C dL_492 (by decide) (K h2 li g)
theorem lcase_18 {i : Nat} (C : LC p s m meth c D cA scr L xs) (hL : L < 2 ^ 31) (hi : i + 5 ≤ L) (x : LI h) (gz : Gz HA h) (K : ∀ h2, LI h2 → Gz HA h2 → LW p l e s m below meth c D cA scr (lvF s scr (nI i)) 642 [] h2) : LW p l e s m below meth c D cA scr (lvF s scr (nI i)) 497 [] h := by
  obtain ⟨ob, hcl⟩ := li_0 x
  refine LW_aload (a := 0) (j := 2) C dL_497 rfl rfl ?_
  refine LW_pair (As := []) (pc9 := 502) C hcl (pr_ls  x) gz (fun h2 a b => li_cap a b) dL_498 clL_90 rfl rfl dL_502 clL_93 rfl rfl (fun v h1 hv k => ?_) (fun v h2 hv li g => ?_) (fun v hv => by obtain ⟨y, rfl⟩ := hv; rfl)
  · refine LW_aload (a := 43) (j := 1) C dL_501 rfl rfl ?_
    exact k
  · obtain ⟨y, rfl⟩ := hv
    exact LW_eq 642 C dL_505 (by decide) (K h2 li g)
theorem lcase_19 {i : Nat} (C : LC p s m meth c D cA scr L xs) (hL : L < 2 ^ 31) (hi : i + 5 ≤ L) (x : LI h) (gz : Gz HA h) (K : ∀ h2, LI h2 → Gz HA h2 → LW p l e s m below meth c D cA scr (lvF s scr (nI i)) 642 [] h2) : LW p l e s m below meth c D cA scr (lvF s scr (nI i)) 510 [] h := by
  obtain ⟨ob, hcl⟩ := li_0 x
  refine LW_aload (a := 0) (j := 2) C dL_510 rfl rfl ?_
  refine LW_ld (a := 3) (b := 0) (j := i + 1) C dL_511 dL_512 dL_513 dL_514 dL_515 rfl rfl (nI_add i 1) (by omega) hL ?_
  refine LW_ld (a := 3) (b := 0) (j := i + 2) C dL_516 dL_517 dL_518 dL_519 dL_520 rfl rfl (nI_add i 2) (by omega) hL ?_
  refine LW_pair (As := [.int (xs (i + 1)), .int (xs (i + 2))]) (pc9 := 535) C hcl (pr_ex (xs (i + 1)) (xs (i + 2)) x) gz (fun h2 a b => li_cap a b) dL_521 clL_94 rfl rfl dL_535 clL_97 rfl rfl (fun v h1 hv k => ?_) (fun v h2 hv li g => ?_) (fun v hv => by obtain ⟨y, rfl⟩ := hv; rfl)
  · refine LW_aload (a := 43) (j := 1) C dL_524 rfl rfl ?_
    refine LW_ld (a := 3) (b := 0) (j := i + 1) C dL_525 dL_526 dL_527 dL_528 dL_529 rfl rfl (nI_add i 1) (by omega) hL ?_
    refine LW_ld (a := 3) (b := 0) (j := i + 2) C dL_530 dL_531 dL_532 dL_533 dL_534 rfl rfl (nI_add i 2) (by omega) hL ?_
    exact k
  · obtain ⟨y, rfl⟩ := hv
    exact LW_eq 642 C dL_538 (by decide) (K h2 li g)
theorem lcase_20 {i : Nat} (C : LC p s m meth c D cA scr L xs) (hL : L < 2 ^ 31) (hi : i + 5 ≤ L) (x : LI h) (gz : Gz HA h) (K : ∀ h2, LI h2 → Gz HA h2 → LW p l e s m below meth c D cA scr (lvF s scr (nI i)) 642 [] h2) : LW p l e s m below meth c D cA scr (lvF s scr (nI i)) 543 [] h := by
  obtain ⟨ob, hcl⟩ := li_0 x
  refine LW_aload (a := 0) (j := 2) C dL_543 rfl rfl ?_
  refine LW_ld (a := 3) (b := 0) (j := i + 1) C dL_544 dL_545 dL_546 dL_547 dL_548 rfl rfl (nI_add i 1) (by omega) hL ?_
  refine LW_pair (As := [.int (xs (i + 1))]) (pc9 := 558) C hcl (pr_app (xs (i + 1)) x) gz (fun h2 a b => li_cap a b) dL_549 clL_98 rfl rfl dL_558 clL_101 rfl rfl (fun v h1 hv k => ?_) (fun v h2 hv li g => ?_) (fun v hv => by obtain ⟨y, rfl⟩ := hv; rfl)
  · refine LW_aload (a := 43) (j := 1) C dL_552 rfl rfl ?_
    refine LW_ld (a := 3) (b := 0) (j := i + 1) C dL_553 dL_554 dL_555 dL_556 dL_557 rfl rfl (nI_add i 1) (by omega) hL ?_
    exact k
  · obtain ⟨y, rfl⟩ := hv
    exact LW_eq 642 C dL_561 (by decide) (K h2 li g)
theorem lcase_21 {i : Nat} (C : LC p s m meth c D cA scr L xs) (hL : L < 2 ^ 31) (hi : i + 5 ≤ L) (x : LI h) (gz : Gz HA h) (K : ∀ h2, LI h2 → Gz HA h2 → LW p l e s m below meth c D cA scr (lvF s scr (nI i)) 642 [] h2) : LW p l e s m below meth c D cA scr (lvF s scr (nI i)) 566 [] h := by
  obtain ⟨ob, hcl⟩ := li_0 x
  refine LW_aload (a := 0) (j := 2) C dL_566 rfl rfl ?_
  refine LW_pair (As := []) (pc9 := 571) C hcl (pr_clr  x) gz (fun h2 a b => li_cap a b) dL_567 clL_102 rfl rfl dL_571 clL_105 rfl rfl (fun v h1 hv k => ?_) (fun v h2 hv li g => ?_) (fun v hv => by obtain ⟨y, rfl⟩ := hv; rfl)
  · refine LW_aload (a := 43) (j := 1) C dL_570 rfl rfl ?_
    exact k
  · obtain ⟨y, rfl⟩ := hv
    exact LW_eq 642 C dL_574 (by decide) (K h2 li g)
theorem lcase_22 {i : Nat} (C : LC p s m meth c D cA scr L xs) (hL : L < 2 ^ 31) (hi : i + 5 ≤ L) (x : LI h) (gz : Gz HA h) (K : ∀ h2, LI h2 → Gz HA h2 → LW p l e s m below meth c D cA scr (lvF s scr (nI i)) 642 [] h2) : LW p l e s m below meth c D cA scr (lvF s scr (nI i)) 579 [] h := by
  obtain ⟨ob, hcl⟩ := li_0 x
  refine LW_aload (a := 0) (j := 2) C dL_579 rfl rfl ?_
  refine LW_pair (As := []) (pc9 := 584) C hcl (pr_par  x) gz (fun h2 a b => li_cap a b) dL_580 clL_106 rfl rfl dL_584 clL_109 rfl rfl (fun v h1 hv k => ?_) (fun v h2 hv li g => ?_) (fun v hv => by obtain ⟨y, rfl⟩ := hv; rfl)
  · refine LW_aload (a := 43) (j := 1) C dL_583 rfl rfl ?_
    exact k
  · obtain ⟨y, rfl⟩ := hv
    exact LW_eq 642 C dL_587 (by decide) (K h2 li g)
theorem lcase_23 {i : Nat} (C : LC p s m meth c D cA scr L xs) (hL : L < 2 ^ 31) (hi : i + 5 ≤ L) (x : LI h) (gz : Gz HA h) (K : ∀ h2, LI h2 → Gz HA h2 → LW p l e s m below meth c D cA scr (lvF s scr (nI i)) 642 [] h2) : LW p l e s m below meth c D cA scr (lvF s scr (nI i)) 592 [] h := by
  obtain ⟨ob, hcl⟩ := li_0 x
  refine LW_aload (a := 0) (j := 2) C dL_592 rfl rfl ?_
  refine LW_pair (As := []) (pc9 := 597) C hcl (pr_und  x) gz (fun h2 a b => li_cap a b) dL_593 clL_110 rfl rfl dL_597 clL_113 rfl rfl (fun v h1 hv k => ?_) (fun v h2 hv li g => ?_) (fun v hv => by obtain ⟨y, rfl⟩ := hv; rfl)
  · refine LW_aload (a := 43) (j := 1) C dL_596 rfl rfl ?_
    exact k
  · obtain ⟨y, rfl⟩ := hv
    exact LW_eq 642 C dL_600 (by decide) (K h2 li g)
theorem lcase_24 {i : Nat} (C : LC p s m meth c D cA scr L xs) (hL : L < 2 ^ 31) (hi : i + 5 ≤ L) (x : LI h) (gz : Gz HA h) (K : ∀ h2, LI h2 → Gz HA h2 → LW p l e s m below meth c D cA scr (lvF s scr (nI i)) 642 [] h2) : LW p l e s m below meth c D cA scr (lvF s scr (nI i)) 605 [] h := by
  obtain ⟨ob, hcl⟩ := li_0 x
  refine LW_aload (a := 0) (j := 2) C dL_605 rfl rfl ?_
  refine LW_ld (a := 3) (b := 0) (j := i + 1) C dL_606 dL_607 dL_608 dL_609 dL_610 rfl rfl (nI_add i 1) (by omega) hL ?_
  refine LW_pair (As := [.int (xs (i + 1))]) (pc9 := 620) C hcl (pr_ec (xs (i + 1)) x) gz (fun h2 a b => li_cap a b) dL_611 clL_114 rfl rfl dL_620 clL_117 rfl rfl (fun v h1 hv k => ?_) (fun v h2 hv li g => ?_) (fun v hv => by obtain ⟨y, rfl⟩ := hv; rfl)
  · refine LW_aload (a := 43) (j := 1) C dL_614 rfl rfl ?_
    refine LW_ld (a := 3) (b := 0) (j := i + 1) C dL_615 dL_616 dL_617 dL_618 dL_619 rfl rfl (nI_add i 1) (by omega) hL ?_
    exact k
  · obtain ⟨y, rfl⟩ := hv
    exact LW_eq 642 C dL_623 (by decide) (K h2 li g)
theorem lcase_25 {i : Nat} (C : LC p s m meth c D cA scr L xs) (hL : L < 2 ^ 31) (hi : i + 5 ≤ L) (x : LI h) (gz : Gz HA h) (K : ∀ h2, LI h2 → Gz HA h2 → LW p l e s m below meth c D cA scr (lvF s scr (nI i)) 642 [] h2) : LW p l e s m below meth c D cA scr (lvF s scr (nI i)) 628 [] h := by
  obtain ⟨ob, hcl⟩ := li_0 x
  refine LW_aload (a := 0) (j := 2) C dL_628 rfl rfl ?_
  refine LW_pair (As := []) (pc9 := 633) C hcl (pr_dg  x) gz (fun h2 a b => li_cap a b) dL_629 clL_118 rfl rfl dL_633 clL_121 rfl rfl (fun v h1 hv k => ?_) (fun v h2 hv li g => ?_) (fun v hv => by obtain ⟨y, rfl⟩ := hv; rfl)
  · refine LW_aload (a := 43) (j := 1) C dL_632 rfl rfl ?_
    exact k
  · obtain ⟨y, rfl⟩ := hv
    exact LW_eqL 642 C dL_636 dL_637 (by decide) (K h2 li g)
end LR
