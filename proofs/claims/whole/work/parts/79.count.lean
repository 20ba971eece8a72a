/-! bitCount is how many bits are set -/
theorem nI_and (a b : Nat) : nI a &&& nI b = nI (a &&& b) := by
  apply b_ext
  intro i hi
  rw [b_and, bt_nI hi, bt_nI hi, bt_nI hi, Nat.testBit_and]
theorem iu_shr {n k : Nat} (hn : n < 2 ^ 32) (hk : k < 32) : ush (nI n) (nI k) = nI (n / 2 ^ k) := by
  apply b_ext
  intro i hi
  have q := b_ushr k hk (nI n) i
  rw [show bt (ush (nI n) (nI k)) i = bt (nI n) (k + i) from q, bt_nI hi, ← Nat.shiftRight_eq_div_pow, Nat.testBit_shiftRight]
  by_cases e : k + i < 32
  · rw [bt_nI e]
  · rw [Nat.testBit_lt_two_pow (Nat.lt_of_lt_of_le hn (Nat.pow_le_pow_right (by decide) (by omega)))]
    unfold bt
    exact BitVec.getLsbD_of_ge _ _ (by omega)
theorem bc_1 {n : Nat} (hn : n < 2 ^ 32) : bc1 (nI n) = nI (F1 1431655765 n) := by
  unfold bc1 F1
  rw [show ush (nI n) 1 = nI (n / 2) from iu_shr hn (by decide), show (1431655765 : Int32) = nI 1431655765 from rfl, nI_and, pk_sub (Nat.le_trans Nat.and_le_left (Nat.div_le_self _ _))]
theorem bc_2 {n : Nat} (hn : n < 2 ^ 32) : bc2 (nI n) = nI (F2 858993459 n) := by
  unfold bc2 F2
  rw [show ush (nI n) 2 = nI (n / 4) from iu_shr (k := 2) hn (by decide), show (858993459 : Int32) = nI 858993459 from rfl, nI_and, nI_and, nI_add]
theorem bc_3 {n : Nat} (hn : n < 2 ^ 32) : bc3 (nI n) = nI (F3 252645135 n) := by
  unfold bc3 F3
  rw [show ush (nI n) 4 = nI (n / 16) from iu_shr (k := 4) hn (by decide), show (252645135 : Int32) = nI 252645135 from rfl, nI_add, nI_and]
theorem dvA {x k a b : Nat} (hk : 0 < k) (e : x = a + k * b) (h : a < k) : x / k = b := by
  rw [e, Nat.add_mul_div_left _ _ hk, Nat.div_eq_of_lt h, Nat.zero_add]
theorem mdA {x k a b : Nat} (hk : 0 < k) (e : x = a + k * b) (h : a < k) : x % k = a := by
  rw [e, Nat.add_mul_mod_self_left, Nat.mod_eq_of_lt h]
theorem i_s1 {q0 q1 q2 q3 : Nat} (h0 : q0 ≤ 8) : ((q0) + 256 * (q1) + 65536 * (q2) + 16777216 * (q3)) / 256 = (q1) + 256 * (q2) + 65536 * (q3) := dvA (a := q0) (by decide) (by clear h0; omega) (by omega)
theorem i_s2 {q0 q1 q2 q3 : Nat} : ((q0) + 256 * (q1) + 65536 * (q2) + 16777216 * (q3)) + ((q1) + 256 * (q2) + 65536 * (q3)) = (q0 + q1) + 256 * (q1 + q2) + 65536 * (q2 + q3) + 16777216 * (q3) := by omega
theorem i_s3 {q0 q1 q2 q3 : Nat} (h0 : q0 ≤ 8) (h1 : q1 ≤ 8) (h2 : q2 ≤ 8) : ((q0 + q1) + 256 * (q1 + q2) + 65536 * (q2 + q3) + 16777216 * (q3)) / 65536 = (q2 + q3) + 256 * (q3) := dvA (a := (q0 + q1) + 256 * (q1 + q2)) (by decide) (by clear h0 h1 h2; omega) (by omega)
theorem i_s4 {q0 q1 q2 q3 : Nat} : ((q0 + q1) + 256 * (q1 + q2) + 65536 * (q2 + q3) + 16777216 * (q3)) + ((q2 + q3) + 256 * (q3)) = (q0 + q1 + q2 + q3) + 256 * (q1 + q2 + q3) + 65536 * (q2 + q3) + 16777216 * (q3) := by omega
theorem i_s7 {q0 q1 q2 q3 : Nat} (h0 : q0 ≤ 8) (h1 : q1 ≤ 8) (h2 : q2 ≤ 8) (h3 : q3 ≤ 8) : ((q0 + q1 + q2 + q3) + 256 * (q1 + q2 + q3) + 65536 * (q2 + q3) + 16777216 * (q3)) % 64 = (q0 + q1 + q2 + q3) := mdA (b := 4 * ((q1 + q2 + q3) + 256 * (q2 + q3) + 65536 * (q3))) (by decide) (by clear h0 h1 h2 h3; omega) (by omega)
theorem l_s1 {q0 q1 q2 q3 q4 q5 q6 q7 : Nat} (h0 : q0 ≤ 8) : ((q0) + 256 * (q1) + 65536 * (q2) + 16777216 * (q3) + 4294967296 * (q4) + 1099511627776 * (q5) + 281474976710656 * (q6) + 72057594037927936 * (q7)) / 256 = (q1) + 256 * (q2) + 65536 * (q3) + 16777216 * (q4) + 4294967296 * (q5) + 1099511627776 * (q6) + 281474976710656 * (q7) := dvA (a := q0) (by decide) (by clear h0; omega) (by omega)
theorem l_s2 {q0 q1 q2 q3 q4 q5 q6 q7 : Nat} : ((q0) + 256 * (q1) + 65536 * (q2) + 16777216 * (q3) + 4294967296 * (q4) + 1099511627776 * (q5) + 281474976710656 * (q6) + 72057594037927936 * (q7)) + ((q1) + 256 * (q2) + 65536 * (q3) + 16777216 * (q4) + 4294967296 * (q5) + 1099511627776 * (q6) + 281474976710656 * (q7)) = (q0 + q1) + 256 * (q1 + q2) + 65536 * (q2 + q3) + 16777216 * (q3 + q4) + 4294967296 * (q4 + q5) + 1099511627776 * (q5 + q6) + 281474976710656 * (q6 + q7) + 72057594037927936 * (q7) := by omega
theorem l_s3 {q0 q1 q2 q3 q4 q5 q6 q7 : Nat} (h0 : q0 ≤ 8) (h1 : q1 ≤ 8) (h2 : q2 ≤ 8) : ((q0 + q1) + 256 * (q1 + q2) + 65536 * (q2 + q3) + 16777216 * (q3 + q4) + 4294967296 * (q4 + q5) + 1099511627776 * (q5 + q6) + 281474976710656 * (q6 + q7) + 72057594037927936 * (q7)) / 65536 = (q2 + q3) + 256 * (q3 + q4) + 65536 * (q4 + q5) + 16777216 * (q5 + q6) + 4294967296 * (q6 + q7) + 1099511627776 * (q7) := dvA (a := (q0 + q1) + 256 * (q1 + q2)) (by decide) (by clear h0 h1 h2; omega) (by omega)
theorem l_s4 {q0 q1 q2 q3 q4 q5 q6 q7 : Nat} : ((q0 + q1) + 256 * (q1 + q2) + 65536 * (q2 + q3) + 16777216 * (q3 + q4) + 4294967296 * (q4 + q5) + 1099511627776 * (q5 + q6) + 281474976710656 * (q6 + q7) + 72057594037927936 * (q7)) + ((q2 + q3) + 256 * (q3 + q4) + 65536 * (q4 + q5) + 16777216 * (q5 + q6) + 4294967296 * (q6 + q7) + 1099511627776 * (q7)) = (q0 + q1 + q2 + q3) + 256 * (q1 + q2 + q3 + q4) + 65536 * (q2 + q3 + q4 + q5) + 16777216 * (q3 + q4 + q5 + q6) + 4294967296 * (q4 + q5 + q6 + q7) + 1099511627776 * (q5 + q6 + q7) + 281474976710656 * (q6 + q7) + 72057594037927936 * (q7) := by omega
theorem l_s5 {q0 q1 q2 q3 q4 q5 q6 q7 : Nat} (h0 : q0 ≤ 8) (h1 : q1 ≤ 8) (h2 : q2 ≤ 8) (h3 : q3 ≤ 8) (h4 : q4 ≤ 8) (h5 : q5 ≤ 8) (h6 : q6 ≤ 8) (h7 : q7 ≤ 8) : ((q0 + q1 + q2 + q3) + 256 * (q1 + q2 + q3 + q4) + 65536 * (q2 + q3 + q4 + q5) + 16777216 * (q3 + q4 + q5 + q6) + 4294967296 * (q4 + q5 + q6 + q7) + 1099511627776 * (q5 + q6 + q7) + 281474976710656 * (q6 + q7) + 72057594037927936 * (q7)) / 4294967296 = (q4 + q5 + q6 + q7) + 256 * (q5 + q6 + q7) + 65536 * (q6 + q7) + 16777216 * (q7) := dvA (a := (q0 + q1 + q2 + q3) + 256 * (q1 + q2 + q3 + q4) + 65536 * (q2 + q3 + q4 + q5) + 16777216 * (q3 + q4 + q5 + q6)) (by decide) (by clear h0 h1 h2 h3 h4 h5 h6 h7; omega) (by omega)
theorem l_s6 {q0 q1 q2 q3 q4 q5 q6 q7 : Nat} : ((q0 + q1 + q2 + q3) + 256 * (q1 + q2 + q3 + q4) + 65536 * (q2 + q3 + q4 + q5) + 16777216 * (q3 + q4 + q5 + q6) + 4294967296 * (q4 + q5 + q6 + q7) + 1099511627776 * (q5 + q6 + q7) + 281474976710656 * (q6 + q7) + 72057594037927936 * (q7)) + ((q4 + q5 + q6 + q7) + 256 * (q5 + q6 + q7) + 65536 * (q6 + q7) + 16777216 * (q7)) = (q0 + q1 + q2 + q3 + q4 + q5 + q6 + q7) + 256 * (q1 + q2 + q3 + q4 + q5 + q6 + q7) + 65536 * (q2 + q3 + q4 + q5 + q6 + q7) + 16777216 * (q3 + q4 + q5 + q6 + q7) + 4294967296 * (q4 + q5 + q6 + q7) + 1099511627776 * (q5 + q6 + q7) + 281474976710656 * (q6 + q7) + 72057594037927936 * (q7) := by omega
theorem l_s7 {q0 q1 q2 q3 q4 q5 q6 q7 : Nat} (h0 : q0 ≤ 8) (h1 : q1 ≤ 8) (h2 : q2 ≤ 8) (h3 : q3 ≤ 8) (h4 : q4 ≤ 8) (h5 : q5 ≤ 8) (h6 : q6 ≤ 8) (h7 : q7 ≤ 8) : ((q0 + q1 + q2 + q3 + q4 + q5 + q6 + q7) + 256 * (q1 + q2 + q3 + q4 + q5 + q6 + q7) + 65536 * (q2 + q3 + q4 + q5 + q6 + q7) + 16777216 * (q3 + q4 + q5 + q6 + q7) + 4294967296 * (q4 + q5 + q6 + q7) + 1099511627776 * (q5 + q6 + q7) + 281474976710656 * (q6 + q7) + 72057594037927936 * (q7)) % 128 = (q0 + q1 + q2 + q3 + q4 + q5 + q6 + q7) := mdA (b := 2 * ((q1 + q2 + q3 + q4 + q5 + q6 + q7) + 256 * (q2 + q3 + q4 + q5 + q6 + q7) + 65536 * (q3 + q4 + q5 + q6 + q7) + 16777216 * (q4 + q5 + q6 + q7) + 4294967296 * (q5 + q6 + q7) + 1099511627776 * (q6 + q7) + 281474976710656 * (q7))) (by decide) (by clear h0 h1 h2 h3 h4 h5 h6 h7; omega) (by omega)
theorem i_bA {q0 q1 q2 q3 : Nat} (h0 : q0 ≤ 8) (h1 : q1 ≤ 8) (h2 : q2 ≤ 8) (h3 : q3 ≤ 8) : (q0) + 256 * (q1) + 65536 * (q2) + 16777216 * (q3) < 4294967296 := by omega
theorem i_bB {q0 q1 q2 q3 : Nat} (h0 : q0 ≤ 8) (h1 : q1 ≤ 8) (h2 : q2 ≤ 8) (h3 : q3 ≤ 8) : (q0 + q1) + 256 * (q1 + q2) + 65536 * (q2 + q3) + 16777216 * (q3) < 4294967296 := by omega
theorem i_bC {q0 q1 q2 q3 : Nat} (h0 : q0 ≤ 8) (h1 : q1 ≤ 8) (h2 : q2 ≤ 8) (h3 : q3 ≤ 8) : (q0 + q1 + q2 + q3) + 256 * (q1 + q2 + q3) + 65536 * (q2 + q3) + 16777216 * (q3) < 4294967296 := by omega
theorem l_bA {q0 q1 q2 q3 q4 q5 q6 q7 : Nat} (h0 : q0 ≤ 8) (h1 : q1 ≤ 8) (h2 : q2 ≤ 8) (h3 : q3 ≤ 8) (h4 : q4 ≤ 8) (h5 : q5 ≤ 8) (h6 : q6 ≤ 8) (h7 : q7 ≤ 8) : (q0) + 256 * (q1) + 65536 * (q2) + 16777216 * (q3) + 4294967296 * (q4) + 1099511627776 * (q5) + 281474976710656 * (q6) + 72057594037927936 * (q7) < 18446744073709551616 := by omega
theorem l_bB {q0 q1 q2 q3 q4 q5 q6 q7 : Nat} (h0 : q0 ≤ 8) (h1 : q1 ≤ 8) (h2 : q2 ≤ 8) (h3 : q3 ≤ 8) (h4 : q4 ≤ 8) (h5 : q5 ≤ 8) (h6 : q6 ≤ 8) (h7 : q7 ≤ 8) : (q0 + q1) + 256 * (q1 + q2) + 65536 * (q2 + q3) + 16777216 * (q3 + q4) + 4294967296 * (q4 + q5) + 1099511627776 * (q5 + q6) + 281474976710656 * (q6 + q7) + 72057594037927936 * (q7) < 18446744073709551616 := by omega
theorem l_bC {q0 q1 q2 q3 q4 q5 q6 q7 : Nat} (h0 : q0 ≤ 8) (h1 : q1 ≤ 8) (h2 : q2 ≤ 8) (h3 : q3 ≤ 8) (h4 : q4 ≤ 8) (h5 : q5 ≤ 8) (h6 : q6 ≤ 8) (h7 : q7 ≤ 8) : (q0 + q1 + q2 + q3) + 256 * (q1 + q2 + q3 + q4) + 65536 * (q2 + q3 + q4 + q5) + 16777216 * (q3 + q4 + q5 + q6) + 4294967296 * (q4 + q5 + q6 + q7) + 1099511627776 * (q5 + q6 + q7) + 281474976710656 * (q6 + q7) + 72057594037927936 * (q7) < 18446744073709551616 := by omega
theorem bcI_pc (x : Int32) : bcI x = nI (pcN x) := by
  obtain ⟨n, hn, rfl⟩ := wb_of32 x
  have p : pcN (nI n) = fb_ct n.testBit 32 := fb_ct_cong (fun i hi => bt_nI hi)
  have a := i_all (n := n) hn
  have c := i_ct n
  rw [p, c]
  have l1 : F1 1431655765 n < 2 ^ 32 := by unfold F1; omega
  have l2 : F2 858993459 (F1 1431655765 n) < 2 ^ 32 := by
    unfold F2
    have h1 : F1 1431655765 n &&& 858993459 ≤ 858993459 := Nat.and_le_right
    have h2 : F1 1431655765 n / 4 &&& 858993459 ≤ 858993459 := Nat.and_le_right
    omega
  unfold bcI
  rw [bc_1 hn, bc_2 l1, bc_3 l2, a]
  have p0 := pcB_le (n / 256 ^ 0 % 256)
  have p1 := pcB_le (n / 256 ^ 1 % 256)
  have p2 := pcB_le (n / 256 ^ 2 % 256)
  have p3 := pcB_le (n / 256 ^ 3 % 256)
  generalize pcB (n / 256 ^ 0 % 256) = q0 at *
  generalize pcB (n / 256 ^ 1 % 256) = q1 at *
  generalize pcB (n / 256 ^ 2 % 256) = q2 at *
  generalize pcB (n / 256 ^ 3 % 256) = q3 at *
  have eA : q0 + 256 * q1 + 65536 * q2 + 16777216 * q3 = (q0) + 256 * (q1) + 65536 * (q2) + 16777216 * (q3) := rfl
  have bA : (q0) + 256 * (q1) + 65536 * (q2) + 16777216 * (q3) < 2 ^ 32 := i_bA p0 p1 p2 p3
  have s12 : (q0) + 256 * (q1) + 65536 * (q2) + 16777216 * (q3) + ((q0) + 256 * (q1) + 65536 * (q2) + 16777216 * (q3)) / 256 = (q0 + q1) + 256 * (q1 + q2) + 65536 * (q2 + q3) + 16777216 * (q3) := by rw [i_s1 p0, i_s2]
  have bB : (q0 + q1) + 256 * (q1 + q2) + 65536 * (q2 + q3) + 16777216 * (q3) < 2 ^ 32 := i_bB p0 p1 p2 p3
  have s34 : (q0 + q1) + 256 * (q1 + q2) + 65536 * (q2 + q3) + 16777216 * (q3) + ((q0 + q1) + 256 * (q1 + q2) + 65536 * (q2 + q3) + 16777216 * (q3)) / 65536 = (q0 + q1 + q2 + q3) + 256 * (q1 + q2 + q3) + 65536 * (q2 + q3) + 16777216 * (q3) := by rw [i_s3 p0 p1 p2, i_s4]
  have bC : (q0 + q1 + q2 + q3) + 256 * (q1 + q2 + q3) + 65536 * (q2 + q3) + 16777216 * (q3) < 2 ^ 32 := i_bC p0 p1 p2 p3
  have s7 := i_s7 p0 p1 p2 p3
  rw [eA]
  generalize (q0) + 256 * (q1) + 65536 * (q2) + 16777216 * (q3) = A at s12 bA ⊢
  generalize (q0 + q1) + 256 * (q1 + q2) + 65536 * (q2 + q3) + 16777216 * (q3) = B at s12 s34 bB
  generalize (q0 + q1 + q2 + q3) + 256 * (q1 + q2 + q3) + 65536 * (q2 + q3) + 16777216 * (q3) = C at s34 bC s7
  unfold bc4
  rw [show ush (nI A) 8 = nI (A / 256) from iu_shr (k := 8) bA (by decide), nI_add, s12]
  unfold bc5
  rw [show ush (nI B) 16 = nI (B / 65536) from iu_shr (k := 16) bB (by decide), nI_add, s34, pk_andN bC 6 (by decide)]
  exact congrArg nI s7
theorem CR_bc {c r : Int32} (h : CR c r) : bcI c = nI (pcN r) := by rw [bcI_pc, CR_pc h]
/-! the same of a long -/
def bl (w : Int64) (i : Nat) : Bool := w.toBitVec.getLsbD i
def pcL (w : Int64) : Nat := fb_ct (bl w) 64
theorem bl_lN {n i : Nat} (hi : i < 64) : bl (lN n) i = n.testBit i := by
  show (BitVec.ofNat 64 n).getLsbD i = _
  rw [BitVec.getLsbD_ofNat]
  simp [hi]
theorem bl_and (x y : Int64) (i : Nat) : bl (x &&& y) i = (bl x i && bl y i) := by unfold bl; rw [Int64.toBitVec_and, BitVec.getLsbD_and]
theorem bl_or (x y : Int64) (i : Nat) : bl (x ||| y) i = (bl x i || bl y i) := by unfold bl; rw [Int64.toBitVec_or, BitVec.getLsbD_or]
theorem bl_ext {x y : Int64} (h : ∀ i, i < 64 → bl x i = bl y i) : x = y := Int64.toBitVec_inj.mp (BitVec.eq_of_getLsbD_eq (fun i hi => h i hi))
theorem bl_0 (i : Nat) : bl 0 i = false := BitVec.getLsbD_zero
theorem lu_shr {n k : Nat} (hn : n < 2 ^ 64) (hk : k < 64) : ushL (lN n) (nI k) = lN (n / 2 ^ k) := wb_shr hn hk
theorem lc_1 {n : Nat} (hn : n < 2 ^ 64) : lc1 (lN n) = lN (F1 6148914691236517205 n) := by
  unfold lc1 F1
  rw [show ushL (lN n) 1 = lN (n / 2) from lu_shr (k := 1) hn (by decide), show (6148914691236517205 : Int64) = lN 6148914691236517205 from rfl, wb_and (by omega) (by decide), lN_sub (Nat.le_trans Nat.and_le_left (Nat.div_le_self _ _))]
theorem lc_2 {n : Nat} (hn : n < 2 ^ 64) : lc2 (lN n) = lN (F2 3689348814741910323 n) := by
  unfold lc2 F2
  rw [show ushL (lN n) 2 = lN (n / 4) from lu_shr (k := 2) hn (by decide), show (3689348814741910323 : Int64) = lN 3689348814741910323 from rfl, wb_and hn (by decide), wb_and (by omega) (by decide), lN_add]
theorem lc_3 {n : Nat} (hn : n + n / 16 < 2 ^ 64) : lc3 (lN n) = lN (F3 1085102592571150095 n) := by
  unfold lc3 F3
  rw [show ushL (lN n) 4 = lN (n / 16) from lu_shr (k := 4) (by omega) (by decide), show (1085102592571150095 : Int64) = lN 1085102592571150095 from rfl, lN_add, wb_and hn (by decide)]
theorem bcL_pc (x : Int64) : bcL x = nI (pcL x) := by
  obtain ⟨n, hn, rfl⟩ := wb_of x
  have p : pcL (lN n) = fb_ct n.testBit 64 := fb_ct_cong (fun i hi => bl_lN hi)
  have a := l_all (n := n) hn
  have c := l_ct n
  rw [p, c]
  have l1 : F1 6148914691236517205 n < 2 ^ 64 := by unfold F1; omega
  have l2 : F2 3689348814741910323 (F1 6148914691236517205 n) + F2 3689348814741910323 (F1 6148914691236517205 n) / 16 < 2 ^ 64 := by
    unfold F2
    have h1 : F1 6148914691236517205 n &&& 3689348814741910323 ≤ 3689348814741910323 := Nat.and_le_right
    have h2 : F1 6148914691236517205 n / 4 &&& 3689348814741910323 ≤ 3689348814741910323 := Nat.and_le_right
    omega
  unfold bcL
  rw [lc_1 hn, lc_2 l1, lc_3 l2, a]
  have p0 := pcB_le (n / 256 ^ 0 % 256)
  have p1 := pcB_le (n / 256 ^ 1 % 256)
  have p2 := pcB_le (n / 256 ^ 2 % 256)
  have p3 := pcB_le (n / 256 ^ 3 % 256)
  have p4 := pcB_le (n / 256 ^ 4 % 256)
  have p5 := pcB_le (n / 256 ^ 5 % 256)
  have p6 := pcB_le (n / 256 ^ 6 % 256)
  have p7 := pcB_le (n / 256 ^ 7 % 256)
  generalize pcB (n / 256 ^ 0 % 256) = q0 at *
  generalize pcB (n / 256 ^ 1 % 256) = q1 at *
  generalize pcB (n / 256 ^ 2 % 256) = q2 at *
  generalize pcB (n / 256 ^ 3 % 256) = q3 at *
  generalize pcB (n / 256 ^ 4 % 256) = q4 at *
  generalize pcB (n / 256 ^ 5 % 256) = q5 at *
  generalize pcB (n / 256 ^ 6 % 256) = q6 at *
  generalize pcB (n / 256 ^ 7 % 256) = q7 at *
  have eA : q0 + 256 * q1 + 65536 * q2 + 16777216 * q3 + 4294967296 * q4 + 1099511627776 * q5 + 281474976710656 * q6 + 72057594037927936 * q7 = (q0) + 256 * (q1) + 65536 * (q2) + 16777216 * (q3) + 4294967296 * (q4) + 1099511627776 * (q5) + 281474976710656 * (q6) + 72057594037927936 * (q7) := rfl
  have bA : (q0) + 256 * (q1) + 65536 * (q2) + 16777216 * (q3) + 4294967296 * (q4) + 1099511627776 * (q5) + 281474976710656 * (q6) + 72057594037927936 * (q7) < 2 ^ 64 := l_bA p0 p1 p2 p3 p4 p5 p6 p7
  have s12 : (q0) + 256 * (q1) + 65536 * (q2) + 16777216 * (q3) + 4294967296 * (q4) + 1099511627776 * (q5) + 281474976710656 * (q6) + 72057594037927936 * (q7) + ((q0) + 256 * (q1) + 65536 * (q2) + 16777216 * (q3) + 4294967296 * (q4) + 1099511627776 * (q5) + 281474976710656 * (q6) + 72057594037927936 * (q7)) / 256 = (q0 + q1) + 256 * (q1 + q2) + 65536 * (q2 + q3) + 16777216 * (q3 + q4) + 4294967296 * (q4 + q5) + 1099511627776 * (q5 + q6) + 281474976710656 * (q6 + q7) + 72057594037927936 * (q7) := by rw [l_s1 p0, l_s2]
  have bB : (q0 + q1) + 256 * (q1 + q2) + 65536 * (q2 + q3) + 16777216 * (q3 + q4) + 4294967296 * (q4 + q5) + 1099511627776 * (q5 + q6) + 281474976710656 * (q6 + q7) + 72057594037927936 * (q7) < 2 ^ 64 := l_bB p0 p1 p2 p3 p4 p5 p6 p7
  have s34 : (q0 + q1) + 256 * (q1 + q2) + 65536 * (q2 + q3) + 16777216 * (q3 + q4) + 4294967296 * (q4 + q5) + 1099511627776 * (q5 + q6) + 281474976710656 * (q6 + q7) + 72057594037927936 * (q7) + ((q0 + q1) + 256 * (q1 + q2) + 65536 * (q2 + q3) + 16777216 * (q3 + q4) + 4294967296 * (q4 + q5) + 1099511627776 * (q5 + q6) + 281474976710656 * (q6 + q7) + 72057594037927936 * (q7)) / 65536 = (q0 + q1 + q2 + q3) + 256 * (q1 + q2 + q3 + q4) + 65536 * (q2 + q3 + q4 + q5) + 16777216 * (q3 + q4 + q5 + q6) + 4294967296 * (q4 + q5 + q6 + q7) + 1099511627776 * (q5 + q6 + q7) + 281474976710656 * (q6 + q7) + 72057594037927936 * (q7) := by rw [l_s3 p0 p1 p2, l_s4]
  have bC : (q0 + q1 + q2 + q3) + 256 * (q1 + q2 + q3 + q4) + 65536 * (q2 + q3 + q4 + q5) + 16777216 * (q3 + q4 + q5 + q6) + 4294967296 * (q4 + q5 + q6 + q7) + 1099511627776 * (q5 + q6 + q7) + 281474976710656 * (q6 + q7) + 72057594037927936 * (q7) < 2 ^ 64 := l_bC p0 p1 p2 p3 p4 p5 p6 p7
  have s56 : (q0 + q1 + q2 + q3) + 256 * (q1 + q2 + q3 + q4) + 65536 * (q2 + q3 + q4 + q5) + 16777216 * (q3 + q4 + q5 + q6) + 4294967296 * (q4 + q5 + q6 + q7) + 1099511627776 * (q5 + q6 + q7) + 281474976710656 * (q6 + q7) + 72057594037927936 * (q7) + ((q0 + q1 + q2 + q3) + 256 * (q1 + q2 + q3 + q4) + 65536 * (q2 + q3 + q4 + q5) + 16777216 * (q3 + q4 + q5 + q6) + 4294967296 * (q4 + q5 + q6 + q7) + 1099511627776 * (q5 + q6 + q7) + 281474976710656 * (q6 + q7) + 72057594037927936 * (q7)) / 4294967296 = (q0 + q1 + q2 + q3 + q4 + q5 + q6 + q7) + 256 * (q1 + q2 + q3 + q4 + q5 + q6 + q7) + 65536 * (q2 + q3 + q4 + q5 + q6 + q7) + 16777216 * (q3 + q4 + q5 + q6 + q7) + 4294967296 * (q4 + q5 + q6 + q7) + 1099511627776 * (q5 + q6 + q7) + 281474976710656 * (q6 + q7) + 72057594037927936 * (q7) := by rw [l_s5 p0 p1 p2 p3 p4 p5 p6 p7, l_s6]
  have s7 := l_s7 p0 p1 p2 p3 p4 p5 p6 p7
  rw [eA]
  generalize (q0) + 256 * (q1) + 65536 * (q2) + 16777216 * (q3) + 4294967296 * (q4) + 1099511627776 * (q5) + 281474976710656 * (q6) + 72057594037927936 * (q7) = A at s12 bA ⊢
  generalize (q0 + q1) + 256 * (q1 + q2) + 65536 * (q2 + q3) + 16777216 * (q3 + q4) + 4294967296 * (q4 + q5) + 1099511627776 * (q5 + q6) + 281474976710656 * (q6 + q7) + 72057594037927936 * (q7) = B at s12 s34 bB
  generalize (q0 + q1 + q2 + q3) + 256 * (q1 + q2 + q3 + q4) + 65536 * (q2 + q3 + q4 + q5) + 16777216 * (q3 + q4 + q5 + q6) + 4294967296 * (q4 + q5 + q6 + q7) + 1099511627776 * (q5 + q6 + q7) + 281474976710656 * (q6 + q7) + 72057594037927936 * (q7) = C at s34 bC s56
  generalize (q0 + q1 + q2 + q3 + q4 + q5 + q6 + q7) + 256 * (q1 + q2 + q3 + q4 + q5 + q6 + q7) + 65536 * (q2 + q3 + q4 + q5 + q6 + q7) + 16777216 * (q3 + q4 + q5 + q6 + q7) + 4294967296 * (q4 + q5 + q6 + q7) + 1099511627776 * (q5 + q6 + q7) + 281474976710656 * (q6 + q7) + 72057594037927936 * (q7) = D at s56 s7
  unfold lc4
  rw [show ushL (lN A) 8 = lN (A / 256) from lu_shr (k := 8) bA (by decide), lN_add, s12]
  unfold lc5
  rw [show ushL (lN B) 16 = lN (B / 65536) from lu_shr (k := 16) bB (by decide), lN_add, s34]
  unfold lc6
  rw [show ushL (lN C) 32 = lN (C / 4294967296) from lu_shr (k := 32) bC (by decide), lN_add, s56, lN_i]
  have e7 : nI D &&& 127 = nI (D % 128) := by
    rw [show (127 : Int32) = nI 127 from rfl, nI_and, show (127 : Nat) = 2 ^ 7 - 1 from rfl, Nat.and_two_pow_sub_one_eq_mod]
  rw [e7, s7]
