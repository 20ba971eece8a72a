/-! counting bits by parts of a word -/
theorem andS {a b c d : Nat} (hb : b < 256) (hd : d < 256) : (b + 256 * a) &&& (d + 256 * c) = (b &&& d) + 256 * (a &&& c) := by
  apply Nat.eq_of_testBit_eq
  intro i
  have h1 : b &&& d < 2 ^ 8 := Nat.and_lt_two_pow _ hd
  rw [show (b + 256 * a) = 2 ^ 8 * a + b by omega, show (d + 256 * c) = 2 ^ 8 * c + d by omega, show (b &&& d) + 256 * (a &&& c) = 2 ^ 8 * (a &&& c) + (b &&& d) by omega, Nat.testBit_and, Nat.testBit_two_pow_mul_add _ (by omega), Nat.testBit_two_pow_mul_add _ (by omega), Nat.testBit_two_pow_mul_add _ h1]
  split
  · rw [Nat.testBit_and]
  · rw [Nat.testBit_and]
def F1 (m n : Nat) : Nat := n - (n / 2 &&& m)
def F2 (m n : Nat) : Nat := (n &&& m) + (n / 4 &&& m)
def F3 (m n : Nat) : Nat := n + n / 16 &&& m
def g1 (b : Nat) : Nat := b - (b / 2 &&& 85)
def g2 (b : Nat) : Nat := (b &&& 51) + (b / 4 &&& 51)
theorem byA' : ∀ b, b < 256 → ∀ c, c < 2 → b / 2 + 128 * c &&& 85 = b / 2 &&& 85 := by decide +kernel
theorem byA {b c : Nat} (h : b < 256) (hc : c < 2) : b / 2 + 128 * c &&& 85 = b / 2 &&& 85 := byA' b h c hc
theorem byB' : ∀ b, b < 256 → (b / 2 &&& 85) ≤ b := by decide +kernel
theorem byB {b : Nat} (h : b < 256) : (b / 2 &&& 85) ≤ b := byB' b h
theorem byC' : ∀ b, b < 256 → ∀ c, c < 4 → b / 4 + 64 * c &&& 51 = b / 4 &&& 51 := by decide +kernel
theorem byC {b c : Nat} (h : b < 256) (hc : c < 4) : b / 4 + 64 * c &&& 51 = b / 4 &&& 51 := byC' b h c hc
theorem byD {b c : Nat} (h : b % 16 ≤ 4 ∧ b / 16 ≤ 4) : b + b / 16 + 16 * c &&& 15 = b % 16 + b / 16 := by
  rw [show (15 : Nat) = 2 ^ 4 - 1 from rfl, Nat.and_two_pow_sub_one_eq_mod]
  omega
def pcB (b : Nat) : Nat := fb_ct b.testBit 8
theorem byE' : ∀ b, b < 256 → g2 (g1 b) % 16 ≤ 4 ∧ g2 (g1 b) / 16 ≤ 4 ∧ g2 (g1 b) % 16 + g2 (g1 b) / 16 = pcB b ∧ g1 b < 256 ∧ g2 (g1 b) < 256 := by decide +kernel
theorem byE {b : Nat} (h : b < 256) : g2 (g1 b) % 16 ≤ 4 ∧ g2 (g1 b) / 16 ≤ 4 ∧ g2 (g1 b) % 16 + g2 (g1 b) / 16 = pcB b ∧ g1 b < 256 ∧ g2 (g1 b) < 256 := byE' b h
theorem pcB_le (b : Nat) : pcB b ≤ 8 := fb_ct_le _ _
theorem ct_byte (n k m : Nat) : fb_ct (fun i => n.testBit (8 * k + i)) 8 = pcB (n / 256 ^ k % 256) := by
  unfold pcB
  apply fb_ct_cong
  intro i hi
  rw [show (256 : Nat) = 2 ^ 8 from rfl, Nat.testBit_mod_two_pow, ← Nat.pow_mul, ← Nat.shiftRight_eq_div_pow, Nat.testBit_shiftRight]
  simp [hi]
theorem i_and {b0 b1 b2 b3 m : Nat} (h0 : b0 < 256) (h1 : b1 < 256) (h2 : b2 < 256) (h3 : b3 < 256) (hm : m < 256) : (b0 + 256 * b1 + 65536 * b2 + 16777216 * b3) &&& (m + 256 * m + 65536 * m + 16777216 * m) = (b0 &&& m) + 256 * (b1 &&& m) + 65536 * (b2 &&& m) + 16777216 * (b3 &&& m) := by
  have e1 : (b0 + 256 * b1 + 65536 * b2 + 16777216 * b3) = (b0 + 256 * (b1 + 256 * (b2 + 256 * b3))) := by omega
  have e2 : (m + 256 * m + 65536 * m + 16777216 * m) = (m + 256 * (m + 256 * (m + 256 * m))) := by omega
  rw [e1, e2, andS h0 hm, andS h1 hm, andS h2 hm]
  omega
theorem i_1 {b0 b1 b2 b3 : Nat} (h0 : b0 < 256) (h1 : b1 < 256) (h2 : b2 < 256) (h3 : b3 < 256) : F1 1431655765 (b0 + 256 * b1 + 65536 * b2 + 16777216 * b3) = g1 b0 + 256 * g1 b1 + 65536 * g1 b2 + 16777216 * g1 b3 := by
  have e : (b0 + 256 * b1 + 65536 * b2 + 16777216 * b3) / 2 = (b0 / 2 + 128 * (b1 % 2)) + 256 * (b1 / 2 + 128 * (b2 % 2)) + 65536 * (b2 / 2 + 128 * (b3 % 2)) + 16777216 * (b3 / 2 + 128 * 0) := by omega
  have q := i_and (b0 := b0 / 2 + 128 * (b1 % 2)) (b1 := b1 / 2 + 128 * (b2 % 2)) (b2 := b2 / 2 + 128 * (b3 % 2)) (b3 := b3 / 2 + 128 * 0) (m := 85) (by omega) (by omega) (by omega) (by omega) (by decide)
  unfold F1
  rw [e, show (1431655765 : Nat) = 85 + 256 * 85 + 65536 * 85 + 16777216 * 85 from rfl, q, byA h0 (show b1 % 2 < 2 by omega), byA h1 (show b2 % 2 < 2 by omega), byA h2 (show b3 % 2 < 2 by omega), byA h3 (show 0 < 2 by omega)]
  have k0 := byB h0
  have k1 := byB h1
  have k2 := byB h2
  have k3 := byB h3
  unfold g1
  omega
theorem i_2 {b0 b1 b2 b3 : Nat} (h0 : b0 < 256) (h1 : b1 < 256) (h2 : b2 < 256) (h3 : b3 < 256) : F2 858993459 (b0 + 256 * b1 + 65536 * b2 + 16777216 * b3) = g2 b0 + 256 * g2 b1 + 65536 * g2 b2 + 16777216 * g2 b3 := by
  have e : (b0 + 256 * b1 + 65536 * b2 + 16777216 * b3) / 4 = (b0 / 4 + 64 * (b1 % 4)) + 256 * (b1 / 4 + 64 * (b2 % 4)) + 65536 * (b2 / 4 + 64 * (b3 % 4)) + 16777216 * (b3 / 4 + 64 * 0) := by omega
  have q := i_and (b0 := b0 / 4 + 64 * (b1 % 4)) (b1 := b1 / 4 + 64 * (b2 % 4)) (b2 := b2 / 4 + 64 * (b3 % 4)) (b3 := b3 / 4 + 64 * 0) (m := 51) (by omega) (by omega) (by omega) (by omega) (by decide)
  unfold F2
  rw [e, show (858993459 : Nat) = 51 + 256 * 51 + 65536 * 51 + 16777216 * 51 from rfl, q, i_and h0 h1 h2 h3 (by decide), byC h0 (show b1 % 4 < 4 by omega), byC h1 (show b2 % 4 < 4 by omega), byC h2 (show b3 % 4 < 4 by omega), byC h3 (show 0 < 4 by omega)]
  unfold g2
  omega
theorem i_3 {b0 b1 b2 b3 : Nat} (h0 : b0 % 16 ≤ 4 ∧ b0 / 16 ≤ 4) (h1 : b1 % 16 ≤ 4 ∧ b1 / 16 ≤ 4) (h2 : b2 % 16 ≤ 4 ∧ b2 / 16 ≤ 4) (h3 : b3 % 16 ≤ 4 ∧ b3 / 16 ≤ 4) : F3 252645135 (b0 + 256 * b1 + 65536 * b2 + 16777216 * b3) = (b0 % 16 + b0 / 16) + 256 * (b1 % 16 + b1 / 16) + 65536 * (b2 % 16 + b2 / 16) + 16777216 * (b3 % 16 + b3 / 16) := by
  have e : (b0 + 256 * b1 + 65536 * b2 + 16777216 * b3) + (b0 + 256 * b1 + 65536 * b2 + 16777216 * b3) / 16 = (b0 + b0 / 16 + 16 * (b1 % 16)) + 256 * (b1 + b1 / 16 + 16 * (b2 % 16)) + 65536 * (b2 + b2 / 16 + 16 * (b3 % 16)) + 16777216 * (b3 + b3 / 16 + 16 * 0) := by omega
  have q := i_and (b0 := b0 + b0 / 16 + 16 * (b1 % 16)) (b1 := b1 + b1 / 16 + 16 * (b2 % 16)) (b2 := b2 + b2 / 16 + 16 * (b3 % 16)) (b3 := b3 + b3 / 16 + 16 * 0) (m := 15) (by omega) (by omega) (by omega) (by omega) (by decide)
  unfold F3
  rw [e, show (252645135 : Nat) = 15 + 256 * 15 + 65536 * 15 + 16777216 * 15 from rfl, q, byD (b := b0) (c := b1 % 16) h0, byD (b := b1) (c := b2 % 16) h1, byD (b := b2) (c := b3 % 16) h2, byD (b := b3) (c := 0) h3]
theorem i_all {n : Nat} (hn : n < 4294967296) : F3 252645135 (F2 858993459 (F1 1431655765 n)) = pcB (n / 256 ^ 0 % 256) + 256 * pcB (n / 256 ^ 1 % 256) + 65536 * pcB (n / 256 ^ 2 % 256) + 16777216 * pcB (n / 256 ^ 3 % 256) := by
  have e : n = (n / 256 ^ 0 % 256) + 256 * (n / 256 ^ 1 % 256) + 65536 * (n / 256 ^ 2 % 256) + 16777216 * (n / 256 ^ 3 % 256) := by omega
  have h0 : n / 256 ^ 0 % 256 < 256 := Nat.mod_lt _ (by decide)
  have h1 : n / 256 ^ 1 % 256 < 256 := Nat.mod_lt _ (by decide)
  have h2 : n / 256 ^ 2 % 256 < 256 := Nat.mod_lt _ (by decide)
  have h3 : n / 256 ^ 3 % 256 < 256 := Nat.mod_lt _ (by decide)
  generalize n / 256 ^ 0 % 256 = b0 at e h0 ⊢
  generalize n / 256 ^ 1 % 256 = b1 at e h1 ⊢
  generalize n / 256 ^ 2 % 256 = b2 at e h2 ⊢
  generalize n / 256 ^ 3 % 256 = b3 at e h3 ⊢
  obtain ⟨x0, y0, z0, u0, w0⟩ := byE h0
  obtain ⟨x1, y1, z1, u1, w1⟩ := byE h1
  obtain ⟨x2, y2, z2, u2, w2⟩ := byE h2
  obtain ⟨x3, y3, z3, u3, w3⟩ := byE h3
  rw [e, i_1 h0 h1 h2 h3, i_2 u0 u1 u2 u3, i_3 ⟨x0, y0⟩ ⟨x1, y1⟩ ⟨x2, y2⟩ ⟨x3, y3⟩, z0, z1, z2, z3]
theorem i_ct (n : Nat) : fb_ct n.testBit 32 = pcB (n / 256 ^ 0 % 256) + pcB (n / 256 ^ 1 % 256) + pcB (n / 256 ^ 2 % 256) + pcB (n / 256 ^ 3 % 256) := by
  have c0 := ct_byte n 0 0
  have c1 := ct_byte n 1 0
  have c2 := ct_byte n 2 0
  have c3 := ct_byte n 3 0
  have s1 := fun m => fb_ct_split n.testBit m 8
  have z : fb_ct n.testBit 0 = 0 := rfl
  have t0 := s1 0
  have t1 := s1 8
  have t2 := s1 16
  have t3 := s1 24
  simp only [show 8 * 1 = 8 from rfl, show 8 * 2 = 16 from rfl, show 8 * 3 = 24 from rfl, Nat.zero_add, Nat.mul_zero, Nat.reduceAdd] at c0 t0 c1 t1 c2 t2 c3 t3
  omega
theorem l_and {b0 b1 b2 b3 b4 b5 b6 b7 m : Nat} (h0 : b0 < 256) (h1 : b1 < 256) (h2 : b2 < 256) (h3 : b3 < 256) (h4 : b4 < 256) (h5 : b5 < 256) (h6 : b6 < 256) (h7 : b7 < 256) (hm : m < 256) : (b0 + 256 * b1 + 65536 * b2 + 16777216 * b3 + 4294967296 * b4 + 1099511627776 * b5 + 281474976710656 * b6 + 72057594037927936 * b7) &&& (m + 256 * m + 65536 * m + 16777216 * m + 4294967296 * m + 1099511627776 * m + 281474976710656 * m + 72057594037927936 * m) = (b0 &&& m) + 256 * (b1 &&& m) + 65536 * (b2 &&& m) + 16777216 * (b3 &&& m) + 4294967296 * (b4 &&& m) + 1099511627776 * (b5 &&& m) + 281474976710656 * (b6 &&& m) + 72057594037927936 * (b7 &&& m) := by
  have e1 : (b0 + 256 * b1 + 65536 * b2 + 16777216 * b3 + 4294967296 * b4 + 1099511627776 * b5 + 281474976710656 * b6 + 72057594037927936 * b7) = (b0 + 256 * (b1 + 256 * (b2 + 256 * (b3 + 256 * (b4 + 256 * (b5 + 256 * (b6 + 256 * b7))))))) := by omega
  have e2 : (m + 256 * m + 65536 * m + 16777216 * m + 4294967296 * m + 1099511627776 * m + 281474976710656 * m + 72057594037927936 * m) = (m + 256 * (m + 256 * (m + 256 * (m + 256 * (m + 256 * (m + 256 * (m + 256 * m))))))) := by omega
  rw [e1, e2, andS h0 hm, andS h1 hm, andS h2 hm, andS h3 hm, andS h4 hm, andS h5 hm, andS h6 hm]
  omega
theorem l_1 {b0 b1 b2 b3 b4 b5 b6 b7 : Nat} (h0 : b0 < 256) (h1 : b1 < 256) (h2 : b2 < 256) (h3 : b3 < 256) (h4 : b4 < 256) (h5 : b5 < 256) (h6 : b6 < 256) (h7 : b7 < 256) : F1 6148914691236517205 (b0 + 256 * b1 + 65536 * b2 + 16777216 * b3 + 4294967296 * b4 + 1099511627776 * b5 + 281474976710656 * b6 + 72057594037927936 * b7) = g1 b0 + 256 * g1 b1 + 65536 * g1 b2 + 16777216 * g1 b3 + 4294967296 * g1 b4 + 1099511627776 * g1 b5 + 281474976710656 * g1 b6 + 72057594037927936 * g1 b7 := by
  have e : (b0 + 256 * b1 + 65536 * b2 + 16777216 * b3 + 4294967296 * b4 + 1099511627776 * b5 + 281474976710656 * b6 + 72057594037927936 * b7) / 2 = (b0 / 2 + 128 * (b1 % 2)) + 256 * (b1 / 2 + 128 * (b2 % 2)) + 65536 * (b2 / 2 + 128 * (b3 % 2)) + 16777216 * (b3 / 2 + 128 * (b4 % 2)) + 4294967296 * (b4 / 2 + 128 * (b5 % 2)) + 1099511627776 * (b5 / 2 + 128 * (b6 % 2)) + 281474976710656 * (b6 / 2 + 128 * (b7 % 2)) + 72057594037927936 * (b7 / 2 + 128 * 0) := by omega
  have q := l_and (b0 := b0 / 2 + 128 * (b1 % 2)) (b1 := b1 / 2 + 128 * (b2 % 2)) (b2 := b2 / 2 + 128 * (b3 % 2)) (b3 := b3 / 2 + 128 * (b4 % 2)) (b4 := b4 / 2 + 128 * (b5 % 2)) (b5 := b5 / 2 + 128 * (b6 % 2)) (b6 := b6 / 2 + 128 * (b7 % 2)) (b7 := b7 / 2 + 128 * 0) (m := 85) (by omega) (by omega) (by omega) (by omega) (by omega) (by omega) (by omega) (by omega) (by decide)
  unfold F1
  rw [e, show (6148914691236517205 : Nat) = 85 + 256 * 85 + 65536 * 85 + 16777216 * 85 + 4294967296 * 85 + 1099511627776 * 85 + 281474976710656 * 85 + 72057594037927936 * 85 from rfl, q, byA h0 (show b1 % 2 < 2 by omega), byA h1 (show b2 % 2 < 2 by omega), byA h2 (show b3 % 2 < 2 by omega), byA h3 (show b4 % 2 < 2 by omega), byA h4 (show b5 % 2 < 2 by omega), byA h5 (show b6 % 2 < 2 by omega), byA h6 (show b7 % 2 < 2 by omega), byA h7 (show 0 < 2 by omega)]
  have k0 := byB h0
  have k1 := byB h1
  have k2 := byB h2
  have k3 := byB h3
  have k4 := byB h4
  have k5 := byB h5
  have k6 := byB h6
  have k7 := byB h7
  unfold g1
  omega
theorem l_2 {b0 b1 b2 b3 b4 b5 b6 b7 : Nat} (h0 : b0 < 256) (h1 : b1 < 256) (h2 : b2 < 256) (h3 : b3 < 256) (h4 : b4 < 256) (h5 : b5 < 256) (h6 : b6 < 256) (h7 : b7 < 256) : F2 3689348814741910323 (b0 + 256 * b1 + 65536 * b2 + 16777216 * b3 + 4294967296 * b4 + 1099511627776 * b5 + 281474976710656 * b6 + 72057594037927936 * b7) = g2 b0 + 256 * g2 b1 + 65536 * g2 b2 + 16777216 * g2 b3 + 4294967296 * g2 b4 + 1099511627776 * g2 b5 + 281474976710656 * g2 b6 + 72057594037927936 * g2 b7 := by
  have e : (b0 + 256 * b1 + 65536 * b2 + 16777216 * b3 + 4294967296 * b4 + 1099511627776 * b5 + 281474976710656 * b6 + 72057594037927936 * b7) / 4 = (b0 / 4 + 64 * (b1 % 4)) + 256 * (b1 / 4 + 64 * (b2 % 4)) + 65536 * (b2 / 4 + 64 * (b3 % 4)) + 16777216 * (b3 / 4 + 64 * (b4 % 4)) + 4294967296 * (b4 / 4 + 64 * (b5 % 4)) + 1099511627776 * (b5 / 4 + 64 * (b6 % 4)) + 281474976710656 * (b6 / 4 + 64 * (b7 % 4)) + 72057594037927936 * (b7 / 4 + 64 * 0) := by omega
  have q := l_and (b0 := b0 / 4 + 64 * (b1 % 4)) (b1 := b1 / 4 + 64 * (b2 % 4)) (b2 := b2 / 4 + 64 * (b3 % 4)) (b3 := b3 / 4 + 64 * (b4 % 4)) (b4 := b4 / 4 + 64 * (b5 % 4)) (b5 := b5 / 4 + 64 * (b6 % 4)) (b6 := b6 / 4 + 64 * (b7 % 4)) (b7 := b7 / 4 + 64 * 0) (m := 51) (by omega) (by omega) (by omega) (by omega) (by omega) (by omega) (by omega) (by omega) (by decide)
  unfold F2
  rw [e, show (3689348814741910323 : Nat) = 51 + 256 * 51 + 65536 * 51 + 16777216 * 51 + 4294967296 * 51 + 1099511627776 * 51 + 281474976710656 * 51 + 72057594037927936 * 51 from rfl, q, l_and h0 h1 h2 h3 h4 h5 h6 h7 (by decide), byC h0 (show b1 % 4 < 4 by omega), byC h1 (show b2 % 4 < 4 by omega), byC h2 (show b3 % 4 < 4 by omega), byC h3 (show b4 % 4 < 4 by omega), byC h4 (show b5 % 4 < 4 by omega), byC h5 (show b6 % 4 < 4 by omega), byC h6 (show b7 % 4 < 4 by omega), byC h7 (show 0 < 4 by omega)]
  unfold g2
  omega
theorem l_3 {b0 b1 b2 b3 b4 b5 b6 b7 : Nat} (h0 : b0 % 16 ≤ 4 ∧ b0 / 16 ≤ 4) (h1 : b1 % 16 ≤ 4 ∧ b1 / 16 ≤ 4) (h2 : b2 % 16 ≤ 4 ∧ b2 / 16 ≤ 4) (h3 : b3 % 16 ≤ 4 ∧ b3 / 16 ≤ 4) (h4 : b4 % 16 ≤ 4 ∧ b4 / 16 ≤ 4) (h5 : b5 % 16 ≤ 4 ∧ b5 / 16 ≤ 4) (h6 : b6 % 16 ≤ 4 ∧ b6 / 16 ≤ 4) (h7 : b7 % 16 ≤ 4 ∧ b7 / 16 ≤ 4) : F3 1085102592571150095 (b0 + 256 * b1 + 65536 * b2 + 16777216 * b3 + 4294967296 * b4 + 1099511627776 * b5 + 281474976710656 * b6 + 72057594037927936 * b7) = (b0 % 16 + b0 / 16) + 256 * (b1 % 16 + b1 / 16) + 65536 * (b2 % 16 + b2 / 16) + 16777216 * (b3 % 16 + b3 / 16) + 4294967296 * (b4 % 16 + b4 / 16) + 1099511627776 * (b5 % 16 + b5 / 16) + 281474976710656 * (b6 % 16 + b6 / 16) + 72057594037927936 * (b7 % 16 + b7 / 16) := by
  have e : (b0 + 256 * b1 + 65536 * b2 + 16777216 * b3 + 4294967296 * b4 + 1099511627776 * b5 + 281474976710656 * b6 + 72057594037927936 * b7) + (b0 + 256 * b1 + 65536 * b2 + 16777216 * b3 + 4294967296 * b4 + 1099511627776 * b5 + 281474976710656 * b6 + 72057594037927936 * b7) / 16 = (b0 + b0 / 16 + 16 * (b1 % 16)) + 256 * (b1 + b1 / 16 + 16 * (b2 % 16)) + 65536 * (b2 + b2 / 16 + 16 * (b3 % 16)) + 16777216 * (b3 + b3 / 16 + 16 * (b4 % 16)) + 4294967296 * (b4 + b4 / 16 + 16 * (b5 % 16)) + 1099511627776 * (b5 + b5 / 16 + 16 * (b6 % 16)) + 281474976710656 * (b6 + b6 / 16 + 16 * (b7 % 16)) + 72057594037927936 * (b7 + b7 / 16 + 16 * 0) := by omega
  have q := l_and (b0 := b0 + b0 / 16 + 16 * (b1 % 16)) (b1 := b1 + b1 / 16 + 16 * (b2 % 16)) (b2 := b2 + b2 / 16 + 16 * (b3 % 16)) (b3 := b3 + b3 / 16 + 16 * (b4 % 16)) (b4 := b4 + b4 / 16 + 16 * (b5 % 16)) (b5 := b5 + b5 / 16 + 16 * (b6 % 16)) (b6 := b6 + b6 / 16 + 16 * (b7 % 16)) (b7 := b7 + b7 / 16 + 16 * 0) (m := 15) (by omega) (by omega) (by omega) (by omega) (by omega) (by omega) (by omega) (by omega) (by decide)
  unfold F3
  rw [e, show (1085102592571150095 : Nat) = 15 + 256 * 15 + 65536 * 15 + 16777216 * 15 + 4294967296 * 15 + 1099511627776 * 15 + 281474976710656 * 15 + 72057594037927936 * 15 from rfl, q, byD (b := b0) (c := b1 % 16) h0, byD (b := b1) (c := b2 % 16) h1, byD (b := b2) (c := b3 % 16) h2, byD (b := b3) (c := b4 % 16) h3, byD (b := b4) (c := b5 % 16) h4, byD (b := b5) (c := b6 % 16) h5, byD (b := b6) (c := b7 % 16) h6, byD (b := b7) (c := 0) h7]
theorem l_all {n : Nat} (hn : n < 18446744073709551616) : F3 1085102592571150095 (F2 3689348814741910323 (F1 6148914691236517205 n)) = pcB (n / 256 ^ 0 % 256) + 256 * pcB (n / 256 ^ 1 % 256) + 65536 * pcB (n / 256 ^ 2 % 256) + 16777216 * pcB (n / 256 ^ 3 % 256) + 4294967296 * pcB (n / 256 ^ 4 % 256) + 1099511627776 * pcB (n / 256 ^ 5 % 256) + 281474976710656 * pcB (n / 256 ^ 6 % 256) + 72057594037927936 * pcB (n / 256 ^ 7 % 256) := by
  have e : n = (n / 256 ^ 0 % 256) + 256 * (n / 256 ^ 1 % 256) + 65536 * (n / 256 ^ 2 % 256) + 16777216 * (n / 256 ^ 3 % 256) + 4294967296 * (n / 256 ^ 4 % 256) + 1099511627776 * (n / 256 ^ 5 % 256) + 281474976710656 * (n / 256 ^ 6 % 256) + 72057594037927936 * (n / 256 ^ 7 % 256) := by omega
  have h0 : n / 256 ^ 0 % 256 < 256 := Nat.mod_lt _ (by decide)
  have h1 : n / 256 ^ 1 % 256 < 256 := Nat.mod_lt _ (by decide)
  have h2 : n / 256 ^ 2 % 256 < 256 := Nat.mod_lt _ (by decide)
  have h3 : n / 256 ^ 3 % 256 < 256 := Nat.mod_lt _ (by decide)
  have h4 : n / 256 ^ 4 % 256 < 256 := Nat.mod_lt _ (by decide)
  have h5 : n / 256 ^ 5 % 256 < 256 := Nat.mod_lt _ (by decide)
  have h6 : n / 256 ^ 6 % 256 < 256 := Nat.mod_lt _ (by decide)
  have h7 : n / 256 ^ 7 % 256 < 256 := Nat.mod_lt _ (by decide)
  generalize n / 256 ^ 0 % 256 = b0 at e h0 ⊢
  generalize n / 256 ^ 1 % 256 = b1 at e h1 ⊢
  generalize n / 256 ^ 2 % 256 = b2 at e h2 ⊢
  generalize n / 256 ^ 3 % 256 = b3 at e h3 ⊢
  generalize n / 256 ^ 4 % 256 = b4 at e h4 ⊢
  generalize n / 256 ^ 5 % 256 = b5 at e h5 ⊢
  generalize n / 256 ^ 6 % 256 = b6 at e h6 ⊢
  generalize n / 256 ^ 7 % 256 = b7 at e h7 ⊢
  obtain ⟨x0, y0, z0, u0, w0⟩ := byE h0
  obtain ⟨x1, y1, z1, u1, w1⟩ := byE h1
  obtain ⟨x2, y2, z2, u2, w2⟩ := byE h2
  obtain ⟨x3, y3, z3, u3, w3⟩ := byE h3
  obtain ⟨x4, y4, z4, u4, w4⟩ := byE h4
  obtain ⟨x5, y5, z5, u5, w5⟩ := byE h5
  obtain ⟨x6, y6, z6, u6, w6⟩ := byE h6
  obtain ⟨x7, y7, z7, u7, w7⟩ := byE h7
  rw [e, l_1 h0 h1 h2 h3 h4 h5 h6 h7, l_2 u0 u1 u2 u3 u4 u5 u6 u7, l_3 ⟨x0, y0⟩ ⟨x1, y1⟩ ⟨x2, y2⟩ ⟨x3, y3⟩ ⟨x4, y4⟩ ⟨x5, y5⟩ ⟨x6, y6⟩ ⟨x7, y7⟩, z0, z1, z2, z3, z4, z5, z6, z7]
theorem l_ct (n : Nat) : fb_ct n.testBit 64 = pcB (n / 256 ^ 0 % 256) + pcB (n / 256 ^ 1 % 256) + pcB (n / 256 ^ 2 % 256) + pcB (n / 256 ^ 3 % 256) + pcB (n / 256 ^ 4 % 256) + pcB (n / 256 ^ 5 % 256) + pcB (n / 256 ^ 6 % 256) + pcB (n / 256 ^ 7 % 256) := by
  have c0 := ct_byte n 0 0
  have c1 := ct_byte n 1 0
  have c2 := ct_byte n 2 0
  have c3 := ct_byte n 3 0
  have c4 := ct_byte n 4 0
  have c5 := ct_byte n 5 0
  have c6 := ct_byte n 6 0
  have c7 := ct_byte n 7 0
  have s1 := fun m => fb_ct_split n.testBit m 8
  have z : fb_ct n.testBit 0 = 0 := rfl
  have t0 := s1 0
  have t1 := s1 8
  have t2 := s1 16
  have t3 := s1 24
  have t4 := s1 32
  have t5 := s1 40
  have t6 := s1 48
  have t7 := s1 56
  simp only [show 8 * 1 = 8 from rfl, show 8 * 2 = 16 from rfl, show 8 * 3 = 24 from rfl, show 8 * 4 = 32 from rfl, show 8 * 5 = 40 from rfl, show 8 * 6 = 48 from rfl, show 8 * 7 = 56 from rfl, Nat.zero_add, Nat.mul_zero, Nat.reduceAdd] at c0 t0 c1 t1 c2 t2 c3 t3 c4 t4 c5 t5 c6 t6 c7 t7
  omega
