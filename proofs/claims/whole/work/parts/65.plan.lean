theorem byt (x m : Nat) : x &&& m = ((x % 256) &&& (m % 256)) + 256 * ((x / 256) &&& (m / 256)) := by
  have h1 : (x &&& m) % 2 ^ 8 = (x % 2 ^ 8) &&& (m % 2 ^ 8) := Nat.and_mod_two_pow ..
  have h2 : (x &&& m) / 2 ^ 8 = (x / 2 ^ 8) &&& (m / 2 ^ 8) := Nat.and_div_two_pow ..
  have h3 := Nat.div_add_mod (x &&& m) 256
  have e : (2 : Nat) ^ 8 = 256 := rfl
  rw [e] at h1 h2
  rw [← h1, ← h2]; omega
theorem bc1 : ∀ a, a < 256 → ∀ t, t < 2 → (a / 2 + 128 * t) &&& 0x55 = (a / 2) &&& 0x55 ∧ (a / 2) &&& 0x55 ≤ a := by decide +kernel
def by1 (a : Nat) : Nat := a - ((a / 2) &&& 0x55)
theorem bc2 : ∀ a, a < 256 → ∀ t, t < 4 → (a / 4 + 64 * t) &&& 0x33 = (a / 4) &&& 0x33 ∧ (a &&& 0x33) + ((a / 4) &&& 0x33) < 256 := by decide +kernel
def by2 (a : Nat) : Nat := (a &&& 0x33) + ((a / 4) &&& 0x33)
def byc (a : Nat) : Nat := a % 2 + a / 2 % 2 + a / 4 % 2 + a / 8 % 2 + a / 16 % 2 + a / 32 % 2 + a / 64 % 2 + a / 128 % 2
theorem bc3 : ∀ a, a < 256 → by1 a < 256 ∧ by2 (by1 a) ≤ 68 ∧ by2 (by1 a) % 16 ≤ 4 ∧ by2 (by1 a) / 16 ≤ 4 ∧ by2 (by1 a) % 16 + by2 (by1 a) / 16 = byc a := by decide +kernel
theorem bc4 : ∀ x, x < 9 → ∀ h, h < 16 → (x + 16 * h) &&& 15 = x := by decide +kernel
theorem st1 {x : Nat} (hx : x < 16777216) : x - ((x / 2) &&& 6148914691236517205) = by1 (x % 256) + 256 * by1 (x / 256 % 256) + 65536 * by1 (x / 65536) ∧ ((x / 2) &&& 6148914691236517205) ≤ x := by
  have e1 := byt (x / 2) 6148914691236517205
  have e2 := byt (x / 2 / 256) (6148914691236517205 / 256)
  have e3 := byt (x / 2 / 256 / 256) (6148914691236517205 / 256 / 256)
  have z3 : x / 2 / 256 / 256 / 256 = 0 := by omega
  rw [z3, Nat.zero_and] at e3
  have a1 := bc1 (x % 256) (by omega) (x / 256 % 2) (by omega)
  have a2 := bc1 (x / 256 % 256) (by omega) (x / 65536 % 2) (by omega)
  have a3 := bc1 (x / 65536) (by omega) 0 (by omega)
  have q1 : x / 2 % 256 = x % 256 / 2 + 128 * (x / 256 % 2) := by omega
  have q2 : x / 2 / 256 % 256 = x / 256 % 256 / 2 + 128 * (x / 65536 % 2) := by omega
  have q3 : x / 2 / 256 / 256 % 256 = x / 65536 / 2 + 128 * 0 := by omega
  have m1 : 6148914691236517205 % 256 = 85 := by decide
  have m2 : 6148914691236517205 / 256 % 256 = 85 := by decide
  have m3 : 6148914691236517205 / 256 / 256 % 256 = 85 := by decide
  rw [q1, m1, a1.1] at e1
  rw [q2, m2, a2.1] at e2
  rw [q3, m3, a3.1] at e3
  rw [e2, e3] at e1
  simp only [by1]
  have b1 := a1.2
  have b2 := a2.2
  have b3 := a3.2
  generalize (x % 256 / 2) &&& 85 = c1 at *
  generalize (x / 256 % 256 / 2) &&& 85 = c2 at *
  generalize (x / 65536 / 2) &&& 85 = c3 at *
  rw [e1]
  omega
theorem st2 {a b c : Nat} (ha : a < 256) (hb : b < 256) (hc : c < 256) : ((a + 256 * b + 65536 * c) &&& 3689348814741910323) + (((a + 256 * b + 65536 * c) / 4) &&& 3689348814741910323) = by2 a + 256 * by2 b + 65536 * by2 c := by
  obtain ⟨x, hx⟩ : ∃ x, x = a + 256 * b + 65536 * c := ⟨_, rfl⟩
  rw [← hx]
  have e1 := byt x 3689348814741910323
  have e2 := byt (x / 256) (3689348814741910323 / 256)
  have e3 := byt (x / 256 / 256) (3689348814741910323 / 256 / 256)
  have f1 := byt (x / 4) 3689348814741910323
  have f2 := byt (x / 4 / 256) (3689348814741910323 / 256)
  have f3 := byt (x / 4 / 256 / 256) (3689348814741910323 / 256 / 256)
  have z3 : x / 256 / 256 / 256 = 0 := by omega
  have z4 : x / 4 / 256 / 256 / 256 = 0 := by omega
  rw [z3, Nat.zero_and] at e3
  rw [z4, Nat.zero_and] at f3
  have m1 : 3689348814741910323 % 256 = 51 := by decide
  have m2 : 3689348814741910323 / 256 % 256 = 51 := by decide
  have m3 : 3689348814741910323 / 256 / 256 % 256 = 51 := by decide
  have p1 : x % 256 = a := by omega
  have p2 : x / 256 % 256 = b := by omega
  have p3 : x / 256 / 256 % 256 = c := by omega
  have q1 : x / 4 % 256 = a / 4 + 64 * (b % 4) := by omega
  have q2 : x / 4 / 256 % 256 = b / 4 + 64 * (c % 4) := by omega
  have q3 : x / 4 / 256 / 256 % 256 = c / 4 + 64 * 0 := by omega
  have a1 := bc2 a ha (b % 4) (by omega)
  have a2 := bc2 b hb (c % 4) (by omega)
  have a3 := bc2 c hc 0 (by omega)
  rw [p1, m1] at e1
  rw [p2, m2] at e2
  rw [p3, m3] at e3
  rw [q1, m1, a1.1] at f1
  rw [q2, m2, a2.1] at f2
  rw [q3, m3, a3.1] at f3
  rw [e2, e3] at e1
  rw [f2, f3] at f1
  rw [e1, f1]
  simp only [by2]
  omega
theorem st3 {a b c : Nat} (ha : a ≤ 68) (hb : b ≤ 68) (hc : c ≤ 68) (a4 : a % 16 ≤ 4) (b4 : b % 16 ≤ 4) (c4 : c % 16 ≤ 4) (a5 : a / 16 ≤ 4) (b5 : b / 16 ≤ 4) (c5 : c / 16 ≤ 4) : ((a + 256 * b + 65536 * c) + (a + 256 * b + 65536 * c) / 16) &&& 1085102592571150095 = (a % 16 + a / 16) + 256 * (b % 16 + b / 16) + 65536 * (c % 16 + c / 16) := by
  obtain ⟨x, hx⟩ : ∃ x, x = (a + 256 * b + 65536 * c) + (a + 256 * b + 65536 * c) / 16 := ⟨_, rfl⟩
  rw [← hx]
  have e1 := byt x 1085102592571150095
  have e2 := byt (x / 256) (1085102592571150095 / 256)
  have e3 := byt (x / 256 / 256) (1085102592571150095 / 256 / 256)
  have z3 : x / 256 / 256 / 256 = 0 := by omega
  rw [z3, Nat.zero_and] at e3
  have m1 : 1085102592571150095 % 256 = 15 := by decide
  have m2 : 1085102592571150095 / 256 % 256 = 15 := by decide
  have m3 : 1085102592571150095 / 256 / 256 % 256 = 15 := by decide
  have p1 : x % 256 = (a % 16 + a / 16) + 16 * (a / 16 + b % 16) := by omega
  have p2 : x / 256 % 256 = (b % 16 + b / 16) + 16 * (b / 16 + c % 16) := by omega
  have p3 : x / 256 / 256 % 256 = (c % 16 + c / 16) + 16 * (c / 16) := by omega
  rw [p1, m1, bc4 _ (by omega) _ (by omega)] at e1
  rw [p2, m2, bc4 _ (by omega) _ (by omega)] at e2
  rw [p3, m3, bc4 _ (by omega) _ (by omega)] at e3
  rw [e1, e2, e3]; omega
theorem bA (x : Nat) : (x % 256 % 2 = x / 1 % 2) ∧ (x % 256 / 2 % 2 = x / 2 % 2) ∧ (x % 256 / 4 % 2 = x / 4 % 2) ∧ (x % 256 / 8 % 2 = x / 8 % 2) ∧ (x % 256 / 16 % 2 = x / 16 % 2) ∧ (x % 256 / 32 % 2 = x / 32 % 2) ∧ (x % 256 / 64 % 2 = x / 64 % 2) ∧ (x % 256 / 128 % 2 = x / 128 % 2) := ⟨by omega, by omega, by omega, by omega, by omega, by omega, by omega, by omega⟩
theorem bB (x : Nat) : (x / 256 % 256 % 2 = x / 256 % 2) ∧ (x / 256 % 256 / 2 % 2 = x / 512 % 2) ∧ (x / 256 % 256 / 4 % 2 = x / 1024 % 2) ∧ (x / 256 % 256 / 8 % 2 = x / 2048 % 2) ∧ (x / 256 % 256 / 16 % 2 = x / 4096 % 2) ∧ (x / 256 % 256 / 32 % 2 = x / 8192 % 2) ∧ (x / 256 % 256 / 64 % 2 = x / 16384 % 2) ∧ (x / 256 % 256 / 128 % 2 = x / 32768 % 2) := ⟨by omega, by omega, by omega, by omega, by omega, by omega, by omega, by omega⟩
theorem bC (x : Nat) : (x / 65536 % 2 = x / 65536 % 2) ∧ (x / 65536 / 2 % 2 = x / 131072 % 2) ∧ (x / 65536 / 4 % 2 = x / 262144 % 2) ∧ (x / 65536 / 8 % 2 = x / 524288 % 2) ∧ (x / 65536 / 16 % 2 = x / 1048576 % 2) ∧ (x / 65536 / 32 % 2 = x / 2097152 % 2) ∧ (x / 65536 / 64 % 2 = x / 4194304 % 2) ∧ (x / 65536 / 128 % 2 = x / 8388608 % 2) := ⟨by omega, by omega, by omega, by omega, by omega, by omega, by omega, by omega⟩
theorem fb1 {a b c : Nat} (ha : a ≤ 68) (hb : b ≤ 68) (hc : c ≤ 68) : a + 256 * b + 65536 * c < 18446744073709551616 ∧ (a + 256 * b + 65536 * c) + (a + 256 * b + 65536 * c) / 16 < 18446744073709551616 := ⟨by omega, by omega⟩
theorem fb2 {a b c n : Nat} (ha : a ≤ 8) (hb : b ≤ 8) (hc : c ≤ 8) (hn : n = a + 256 * b + 65536 * c) : n + n / 256 < 16777216 := by omega
theorem fb3 {n : Nat} (hn : n < 16777216) : n + n / 65536 < 16908288 ∧ n + n / 65536 + (n + n / 65536) / 4294967296 < 18446744073709551616 := ⟨by omega, by omega⟩
theorem fb4 {a b c n : Nat} (ha : a ≤ 8) (hb : b ≤ 8) (hc : c ≤ 8) (hn : n = a + 256 * b + 65536 * c) : ((n + n / 256) + (n + n / 256) / 65536 + ((n + n / 256) + (n + n / 256) / 65536) / 4294967296) % 4294967296 % 128 = a + b + c ∧ a + b + c < 4294967296 := by
  have e1 : n + n / 256 = (a + b) + 256 * (b + c) + 65536 * c := by omega
  rw [e1]
  have e2 : ((a + b) + 256 * (b + c) + 65536 * c) / 65536 = c := by omega
  rw [e2]
  obtain ⟨M, hM⟩ : ∃ M, M = (a + b) + 256 * (b + c) + 65536 * c + c := ⟨_, rfl⟩
  rw [← hM]
  have hlt : M < 4294967296 := by omega
  rw [Nat.div_eq_of_lt hlt, Nat.add_zero, Nat.mod_eq_of_lt hlt]
  clear e1 e2 hn
  exact ⟨by omega, by omega⟩
theorem shw (w : Int64) (k : Int32) (n : Nat) (hn : ((k.toInt64.toUInt64 &&& Int64.toUInt64 63) % 64).toBitVec.toNat = n) : (w.toUInt64 >>> (k.toInt64.toUInt64 &&& Int64.toUInt64 63)).toInt64.toBitVec.toNat = w.toBitVec.toNat / 2 ^ n := by
  have e1 : (w.toUInt64 >>> (k.toInt64.toUInt64 &&& Int64.toUInt64 63)).toInt64.toBitVec = w.toBitVec >>> ((k.toInt64.toUInt64 &&& Int64.toUInt64 63) % 64).toBitVec := rfl
  rw [e1, BitVec.ushiftRight_eq', BitVec.toNat_ushiftRight, hn, Nat.shiftRight_eq_div_pow]
theorem anw (w u : Int64) (c : Nat) (hc : u.toBitVec.toNat = c) : (w &&& u).toBitVec.toNat = w.toBitVec.toNat &&& c := by rw [Int64.toBitVec_and, BitVec.toNat_and, hc]
theorem adw (w u : Int64) (h : w.toBitVec.toNat + u.toBitVec.toNat < 18446744073709551616) : (w + u).toBitVec.toNat = w.toBitVec.toNat + u.toBitVec.toNat := by rw [Int64.toBitVec_add, BitVec.toNat_add]; exact Nat.mod_eq_of_lt h
theorem sbw (w u : Int64) (h : u.toBitVec.toNat ≤ w.toBitVec.toNat) : (w - u).toBitVec.toNat = w.toBitVec.toNat - u.toBitVec.toNat := by rw [Int64.toBitVec_sub]; exact BitVec.toNat_sub_of_le h
theorem k55 : (6148914691236517205 : Int64).toBitVec.toNat = 6148914691236517205 := by decide +kernel
theorem k33 : (3689348814741910323 : Int64).toBitVec.toNat = 3689348814741910323 := by decide +kernel
theorem k0f : (1085102592571150095 : Int64).toBitVec.toNat = 1085102592571150095 := by decide +kernel
theorem cnt24 {v : Int64} {x : Nat} (hx : x = v.toBitVec.toNat) : cnt (fun e => hb v e) 24 = byc (x % 256) + byc (x / 256 % 256) + byc (x / 65536) := by
  have hbit : ∀ e, hb v e = decide (x / 2 ^ e % 2 = 1) := by
    intro e
    rw [hb, BitVec.getLsbD, hx, Nat.testBit_eq_decide_div_mod_eq]
  have this : ∀ k : Nat, (if k % 2 = 1 then 1 else 0) = k % 2 := by
    intro k; split <;> omega
  obtain ⟨a0, a1, a2, a3, a4, a5, a6, a7⟩ := bA x
  obtain ⟨b0, b1, b2, b3, b4, b5, b6, b7⟩ := bB x
  obtain ⟨c0, c1, c2, c3, c4, c5, c6, c7⟩ := bC x
  simp only [cnt, hbit, decide_eq_true_eq, byc, this, Nat.reducePow, a0, a1, a2, a3, a4, a5, a6, a7, b0, b1, b2, b3, b4, b5, b6, b7, c0, c1, c2, c3, c4, c5, c6, c7, Nat.add_assoc, Nat.zero_add]
theorem byc8 : ∀ a, a < 256 → byc a ≤ 8 := by decide +kernel
theorem bx3 {x : Nat} (hx : x < 16777216) : x % 256 < 256 ∧ x / 256 % 256 < 256 ∧ x / 65536 < 256 := ⟨by omega, by omega, by omega⟩
theorem s_G_bitCount {z : Sta} {K : Int32 → Sta → Prop} {v : Int64} (hv : ∀ e, 24 ≤ e → hb v e = false) (h : K (ix (cnt (fun e => hb v e) 24)) z) : wp_G_bitCount v z K := by
  obtain ⟨x, hx⟩ : ∃ x : Nat, x = v.toBitVec.toNat := ⟨_, rfl⟩
  have hlt : x < 16777216 := by
    rw [hx]
    exact Nat.lt_pow_two_of_testBit (n := 24) _ (fun i hi => by
      have := hv i hi
      rw [hb, BitVec.getLsbD] at this
      exact this)
  have hcnt := cnt24 hx
  obtain ⟨g1, g2⟩ := st1 hlt
  obtain ⟨l1, l2, l3⟩ := bx3 hlt
  obtain ⟨p1, p2, p3, p4, p5⟩ := bc3 _ l1
  obtain ⟨q1, q2, q3, q4, q5⟩ := bc3 _ l2
  obtain ⟨r1, r2, r3, r4, r5⟩ := bc3 _ l3
  have g3 := st2 p1 q1 r1
  have g4 := st3 p2 q2 r2 p3 q3 r3 p4 q4 r4
  rw [p5, q5, r5] at g4
  have h8a := byc8 _ l1
  have h8b := byc8 _ l2
  have h8c := byc8 _ l3
  have bd := fb1 p2 q2 r2
  simp only [wp_G_bitCount]
  intro v1 e1 v2 e2 v3 e3 v4 e4 v5 e5 v6 e6 v7 e7 v8 e8 v9 e9 v10 e10 v11 e11 v12 e12 v13 e13 v14 e14 v15 e15 v16 e16 v17 e17 v18 e18
  have n1 : v1.toBitVec.toNat = x / 2 ^ 1 := by rw [e1, shw v 1 1 (by decide +kernel), ← hx]
  have n2 : v2.toBitVec.toNat = (x / 2 ^ 1) &&& 6148914691236517205 := by rw [e2, anw _ _ _ k55, n1]
  rw [Nat.pow_one] at n2
  have n3 : v3.toBitVec.toNat = by1 (x % 256) + 256 * by1 (x / 256 % 256) + 65536 * by1 (x / 65536) := by rw [e3, sbw _ _ (by rw [n2, ← hx]; exact g2), n2, ← hx]; exact g1
  have n4 : v4.toBitVec.toNat = v3.toBitVec.toNat &&& 3689348814741910323 := by rw [e4, anw _ _ _ k33]
  have n5 : v5.toBitVec.toNat = v3.toBitVec.toNat / 2 ^ 2 := by rw [e5, shw v3 2 2 (by decide +kernel)]
  have n6 : v6.toBitVec.toNat = (v3.toBitVec.toNat / 2 ^ 2) &&& 3689348814741910323 := by rw [e6, anw _ _ _ k33, n5]
  have w4 : (2 : Nat) ^ 2 = 4 := by decide
  have w16 : (2 : Nat) ^ 4 = 16 := by decide
  have w256 : (2 : Nat) ^ 8 = 256 := by decide
  have w65 : (2 : Nat) ^ 16 = 65536 := by decide
  have w32 : (2 : Nat) ^ 32 = 4294967296 := by decide
  rw [w4] at n6
  rw [← n3, ← n4, ← n6] at g3
  have n7 : v7.toBitVec.toNat = by2 (by1 (x % 256)) + 256 * by2 (by1 (x / 256 % 256)) + 65536 * by2 (by1 (x / 65536)) := by rw [e7, adw _ _ (by rw [g3]; exact bd.1)]; exact g3
  have n8 : v8.toBitVec.toNat = v7.toBitVec.toNat / 2 ^ 4 := by rw [e8, shw v7 4 4 (by decide +kernel)]
  rw [w16] at n8
  have n9 : v9.toBitVec.toNat = v7.toBitVec.toNat + v7.toBitVec.toNat / 16 := by rw [e9, adw _ _ (by rw [n8, n7]; exact bd.2), n8]
  have n10 : v10.toBitVec.toNat = byc (x % 256) + 256 * byc (x / 256 % 256) + 65536 * byc (x / 65536) := by
    rw [e10, anw _ _ _ k0f, n9, n7]; exact g4
  have c2 := fb2 h8a h8b h8c n10
  have c3 := fb3 c2
  have c4 := fb4 h8a h8b h8c n10
  have n11 : v11.toBitVec.toNat = v10.toBitVec.toNat / 2 ^ 8 := by rw [e11, shw v10 8 8 (by decide +kernel)]
  rw [w256] at n11
  have n12 : v12.toBitVec.toNat = v10.toBitVec.toNat + v10.toBitVec.toNat / 256 := by rw [e12, adw _ _ (by rw [n11]; exact Nat.lt_trans c2 (by decide)), n11]
  rw [← n12] at c2 c3 c4
  have n13 : v13.toBitVec.toNat = v12.toBitVec.toNat / 2 ^ 16 := by rw [e13, shw v12 16 16 (by decide +kernel)]
  rw [w65] at n13
  have n14 : v14.toBitVec.toNat = v12.toBitVec.toNat + v12.toBitVec.toNat / 65536 := by rw [e14, adw _ _ (by rw [n13]; exact Nat.lt_trans c3.1 (by decide)), n13]
  rw [← n14] at c3 c4
  have n15 : v15.toBitVec.toNat = v14.toBitVec.toNat / 2 ^ 32 := by rw [e15, shw v14 32 32 (by decide +kernel)]
  rw [w32] at n15
  have n16 : v16.toBitVec.toNat = v14.toBitVec.toNat + v14.toBitVec.toNat / 4294967296 := by rw [e16, adw _ _ (by rw [n15]; exact c3.2), n15]
  rw [← n16, ← hcnt] at c4
  have hfin : v18 = ix (cnt (fun e => hb v e) 24) := by
    apply Int32.toBitVec_inj.1
    apply BitVec.eq_of_toNat_eq
    have t1 : (ix (cnt (fun e => hb v e) 24)).toBitVec.toNat = cnt (fun e => hb v e) 24 := by
      show (BitVec.ofNat 32 (cnt (fun e => hb v e) 24)).toNat = _
      rw [BitVec.toNat_ofNat]; exact Nat.mod_eq_of_lt c4.2
    have t2 : (v16.toInt32).toBitVec.toNat = v16.toBitVec.toNat % 2 ^ 32 := by
      rw [Int64.toBitVec_toInt32, BitVec.signExtend_eq_setWidth_of_le _ (by decide), BitVec.toNat_setWidth]
    have t3 : (127 : Int32).toBitVec.toNat = 2 ^ 7 - 1 := by decide
    have w7 : (2 : Nat) ^ 7 = 128 := by decide
    rw [t1, e18, e17, Int32.toBitVec_and, BitVec.toNat_and, t2, t3, Nat.and_two_pow_sub_one_eq_mod, w7, w32]
    exact c4.1
  rw [hfin]; exact h
