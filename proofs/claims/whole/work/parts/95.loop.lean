/-! the law's loop -/
section LR
variable {p : Program} {l : Launch} {e : Env} {s : State} {m : MethodId} {below : List Frame} {meth : Method} {c : Code} {D : va_G} {cA : Nat → ClassId} {scr L : Nat} {xs : Nat → Int32} {h : Hp}
theorem law_back {i : Nat} (C : LC p s m meth c D cA scr L xs) (K : LW p l e s m below meth c D cA scr (lvF s scr (nI (i + 5))) 18 [] h) : LW p l e s m below meth c D cA scr (lvF s scr (nI i)) 642 [] h := by
  intro H locs LS hw hl
  refine lv_iinc (v := nI (i + 5)) (lv' := lvF s scr (nI (i + 5))) C.1 C.2.1 dL_642 hl (k := 0) rfl (nI_add i 5) (by decide) rfl (fun ls hl => ?_)
  refine lv_goto (tgt := 18) C.1 C.2.1 dL_645 (by decide) ?_
  exact K H locs ls hw hl
theorem and31 (y : Int32) : ∃ t, t < 32 ∧ y &&& 31 = nI t := by
  obtain ⟨n, hn, rfl⟩ := wb_of32 y
  exact ⟨n % 32, Nat.mod_lt _ (by decide), pk_andN hn 5 (by decide)⟩
theorem law_sw {i : Nat} (C : LC p s m meth c D cA scr L xs) (hL : L < 2 ^ 31) (hi : i + 5 ≤ L) (x : LI h) (gz : Gz HA h) (K : ∀ h2, LI h2 → Gz HA h2 → LW p l e s m below meth c D cA scr (lvF s scr (nI i)) 642 [] h2) : LW p l e s m below meth c D cA scr (lvF s scr (nI i)) 26 [] h := by
  intro H locs LS hw hl
  have C0 := C
  obtain ⟨c1, c2, c3, c4, c5, c6, c7, c8, c9, c10, c11⟩ := C0
  refine lv_aload_n c1 c2 dL_26 rfl (lv_at hl 3 rfl) ?_
  refine lv_iload_n c1 c2 dL_27 rfl (lv_at hl 0 rfl) ?_
  refine va_sld (A := fun q => s.heap.size ≤ q) c1 c2 c10 c11 (Nat.not_le.mpr c11) hw.2.2.1 (vp_in_nI (show i < L by omega) hL) dL_28 ?_
  refine lv_bipush (v := 31) c1 c2 dL_29 (by decide) ?_
  refine lv_iand c1 c2 dL_31 ?_
  obtain ⟨t, ht, et⟩ := and31 (xs (nI i).toNatClampNeg)
  rw [et]
  have ht' : t = 0 ∨ t = 1 ∨ t = 2 ∨ t = 3 ∨ t = 4 ∨ t = 5 ∨ t = 6 ∨ t = 7 ∨ t = 8 ∨ t = 9 ∨ t = 10 ∨ t = 11 ∨ t = 12 ∨ t = 13 ∨ t = 14 ∨ t = 15 ∨ t = 16 ∨ t = 17 ∨ t = 18 ∨ t = 19 ∨ t = 20 ∨ t = 21 ∨ t = 22 ∨ t = 23 ∨ t = 24 ∨ t = 25 ∨ 26 ≤ t := by omega
  rcases ht' with rfl | rfl | rfl | rfl | rfl | rfl | rfl | rfl | rfl | rfl | rfl | rfl | rfl | rfl | rfl | rfl | rfl | rfl | rfl | rfl | rfl | rfl | rfl | rfl | rfl | rfl | h26
  · refine lv_tableIn (off := 120) (tgt := 152) c1 c2 dL_32 (by decide) (by decide) (by decide) (by decide) ?_
    exact lcase_0 C hL hi x gz K H locs LS hw hl
  · refine lv_tableIn (off := 173) (tgt := 205) c1 c2 dL_32 (by decide) (by decide) (by decide) (by decide) ?_
    exact lcase_1 C hL hi x gz K H locs LS hw hl
  · refine lv_tableIn (off := 196) (tgt := 228) c1 c2 dL_32 (by decide) (by decide) (by decide) (by decide) ?_
    exact lcase_2 C hL hi x gz K H locs LS hw hl
  · refine lv_tableIn (off := 209) (tgt := 241) c1 c2 dL_32 (by decide) (by decide) (by decide) (by decide) ?_
    exact lcase_3 C hL hi x gz K H locs LS hw hl
  · refine lv_tableIn (off := 232) (tgt := 264) c1 c2 dL_32 (by decide) (by decide) (by decide) (by decide) ?_
    exact lcase_4 C hL hi x gz K H locs LS hw hl
  · refine lv_tableIn (off := 255) (tgt := 287) c1 c2 dL_32 (by decide) (by decide) (by decide) (by decide) ?_
    exact lcase_5 C hL hi x gz K H locs LS hw hl
  · refine lv_tableIn (off := 268) (tgt := 300) c1 c2 dL_32 (by decide) (by decide) (by decide) (by decide) ?_
    exact lcase_6 C hL hi x gz K H locs LS hw hl
  · refine lv_tableIn (off := 301) (tgt := 333) c1 c2 dL_32 (by decide) (by decide) (by decide) (by decide) ?_
    exact lcase_7 C hL hi x gz K H locs LS hw hl
  · refine lv_tableIn (off := 314) (tgt := 346) c1 c2 dL_32 (by decide) (by decide) (by decide) (by decide) ?_
    exact lcase_8 C hL hi x gz K H locs LS hw hl
  · refine lv_tableIn (off := 327) (tgt := 359) c1 c2 dL_32 (by decide) (by decide) (by decide) (by decide) ?_
    exact lcase_9 C hL hi x gz K H locs LS hw hl
  · refine lv_tableIn (off := 340) (tgt := 372) c1 c2 dL_32 (by decide) (by decide) (by decide) (by decide) ?_
    exact lcase_10 C hL hi x gz K H locs LS hw hl
  · refine lv_tableIn (off := 353) (tgt := 385) c1 c2 dL_32 (by decide) (by decide) (by decide) (by decide) ?_
    exact lcase_11 C hL hi x gz K H locs LS hw hl
  · refine lv_tableIn (off := 366) (tgt := 398) c1 c2 dL_32 (by decide) (by decide) (by decide) (by decide) ?_
    exact lcase_12 C hL hi x gz K H locs LS hw hl
  · refine lv_tableIn (off := 379) (tgt := 411) c1 c2 dL_32 (by decide) (by decide) (by decide) (by decide) ?_
    exact lcase_13 C hL hi x gz K H locs LS hw hl
  · refine lv_tableIn (off := 392) (tgt := 424) c1 c2 dL_32 (by decide) (by decide) (by decide) (by decide) ?_
    exact lcase_14 C hL hi x gz K H locs LS hw hl
  · refine lv_tableIn (off := 415) (tgt := 447) c1 c2 dL_32 (by decide) (by decide) (by decide) (by decide) ?_
    exact lcase_15 C hL hi x gz K H locs LS hw hl
  · refine lv_tableIn (off := 429) (tgt := 461) c1 c2 dL_32 (by decide) (by decide) (by decide) (by decide) ?_
    exact lcase_16 C hL hi x gz K H locs LS hw hl
  · refine lv_tableIn (off := 442) (tgt := 474) c1 c2 dL_32 (by decide) (by decide) (by decide) (by decide) ?_
    exact lcase_17 C hL hi x gz K H locs LS hw hl
  · refine lv_tableIn (off := 465) (tgt := 497) c1 c2 dL_32 (by decide) (by decide) (by decide) (by decide) ?_
    exact lcase_18 C hL hi x gz K H locs LS hw hl
  · refine lv_tableIn (off := 478) (tgt := 510) c1 c2 dL_32 (by decide) (by decide) (by decide) (by decide) ?_
    exact lcase_19 C hL hi x gz K H locs LS hw hl
  · refine lv_tableIn (off := 511) (tgt := 543) c1 c2 dL_32 (by decide) (by decide) (by decide) (by decide) ?_
    exact lcase_20 C hL hi x gz K H locs LS hw hl
  · refine lv_tableIn (off := 534) (tgt := 566) c1 c2 dL_32 (by decide) (by decide) (by decide) (by decide) ?_
    exact lcase_21 C hL hi x gz K H locs LS hw hl
  · refine lv_tableIn (off := 547) (tgt := 579) c1 c2 dL_32 (by decide) (by decide) (by decide) (by decide) ?_
    exact lcase_22 C hL hi x gz K H locs LS hw hl
  · refine lv_tableIn (off := 560) (tgt := 592) c1 c2 dL_32 (by decide) (by decide) (by decide) (by decide) ?_
    exact lcase_23 C hL hi x gz K H locs LS hw hl
  · refine lv_tableIn (off := 573) (tgt := 605) c1 c2 dL_32 (by decide) (by decide) (by decide) (by decide) ?_
    exact lcase_24 C hL hi x gz K H locs LS hw hl
  · refine lv_tableIn (off := 596) (tgt := 628) c1 c2 dL_32 (by decide) (by decide) (by decide) (by decide) ?_
    exact lcase_25 C hL hi x gz K H locs LS hw hl
  · refine lv_tableOut (tgt := 642) c1 c2 dL_32 (Or.inr ?_) (by decide) ?_
    · rw [nI_toInt (by omega)]
      omega
    · exact K h x gz H locs LS hw hl
theorem law_head {i : Nat} (C : LC p s m meth c D cA scr L xs) (hL : L ≤ 2560) (hi : i ≤ 2600) (x : LI h) (gz : Gz HA h) (K : i + 5 ≤ L → LW p l e s m below meth c D cA scr (lvF s scr (nI i)) 26 [] h) : LW p l e s m below meth c D cA scr (lvF s scr (nI i)) 18 [] h := by
  intro H locs LS hw hl
  obtain ⟨c1, c2, c3, c4, c5, c6, c7, c8, c9, c10, c11⟩ := C
  refine lv_iload_n c1 c2 dL_18 rfl (lv_at hl 0 rfl) ?_
  refine lv_aload_n c1 c2 dL_19 rfl (lv_at hl 3 rfl) ?_
  refine va_slen (A := fun q => s.heap.size ≤ q) c1 c2 c10 c11 (Nat.not_le.mpr c11) hw.2.2.1 dL_20 ?_
  refine lv_iconst (v := 5) c1 c2 dL_21 (by decide) ?_
  refine lv_isub c1 c2 dL_22 ?_
  have cap := li_cap x gz
  have e5 : (nI L - 5 : Int32).toInt = (L : Int) - 5 := pk_sub_toInt (a := L) (b := 5) (by omega) (by decide)
  have ei : (nI i).toInt = (i : Int) := nI_toInt (by omega)
  refine lv_icmp_gt (tgt := 648) c1 c2 dL_23 (by decide) (fun z => ?_) (fun z => ?_)
  · refine lv_iconst (v := 1) c1 c2 dL_648 (by decide) ?_
    refine va_forget (fun q hq => hw.2.2.1.2.2 q hq) ?_
    refine W.widen (k := 600000) (n := 7302250) cap.1 cap.2 ?_
    exact lw_ret (d0 := s.drawn) (Drawn.sameBut.refl s.drawn lw_cs) c1 c2 c4 c5 dL_649
  · refine K ?_ H locs LS hw hl
    apply Classical.byContradiction
    intro nn
    apply z
    rw [show Int32.ofNat L = nI L from rfl, Int32.lt_iff_toInt_lt, e5, ei]
    omega
theorem law_loop (C : LC p s m meth c D cA scr L xs) (hL : L ≤ 2560) : ∀ (f i : Nat) (h : Hp), L < i + 5 * f + 5 → i ≤ 2600 → LI h → Gz HA h → LW p l e s m below meth c D cA scr (lvF s scr (nI i)) 18 [] h
  | 0, i, h, hf, hi, x, gz => law_head C hL hi x gz (fun z => by omega)
  | f + 1, i, h, hf, hi, x, gz => law_head C hL hi x gz (fun z => law_sw C (by omega) z x gz (fun h2 x2 g2 => law_back C (law_loop C hL f (i + 5) h2 (by omega) (by omega) x2 g2)))
end LR
