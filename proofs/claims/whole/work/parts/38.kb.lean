/-! bits (wb_ rows: out of kit/laws/BITS.to-paste) -/
theorem wb_tb (n : Nat) : (lN n).toBitVec = BitVec.ofNat 64 n := rfl
theorem wb_inj {a b : Int64} (h : a.toBitVec = b.toBitVec) : a = b := Int64.toBitVec_inj.mp h
theorem wb_tn {n : Nat} (h : n < 2 ^ 64) : (lN n).toBitVec.toNat = n := by rw [wb_tb, BitVec.toNat_ofNat, Nat.mod_eq_of_lt h]
theorem wb_of (x : Int64) : ∃ n, n < 2 ^ 64 ∧ x = lN n := ⟨x.toBitVec.toNat, x.toBitVec.isLt, wb_inj (by rw [wb_tb]; simp)⟩
theorem wb_lt2 {a b : Nat} (h : a < b) : 2 ^ a < 2 ^ b := Nat.pow_lt_pow_right (by decide) h
theorem wb_and {a b : Nat} (ha : a < 2 ^ 64) (hb : b < 2 ^ 64) : lN a &&& lN b = lN (a &&& b) := by
  apply wb_inj
  rw [Int64.toBitVec_and, wb_tb, wb_tb, wb_tb]
  apply BitVec.eq_of_toNat_eq
  rw [BitVec.toNat_and, BitVec.toNat_ofNat, BitVec.toNat_ofNat, BitVec.toNat_ofNat, Nat.mod_eq_of_lt ha, Nat.mod_eq_of_lt hb, Nat.mod_eq_of_lt (Nat.and_lt_two_pow _ hb)]
theorem wb_mask {n k : Nat} (hn : n < 2 ^ 64) (hk : k < 64) : lN n &&& lN (2 ^ k - 1) = lN (n % 2 ^ k) := by
  rw [wb_and hn (by have := wb_lt2 hk; omega), Nat.and_two_pow_sub_one_eq_mod]
theorem nI_bn (n : Nat) : (nI n).toBitVec.toNat = n % 2 ^ 32 := BitVec.toNat_ofNat n 32
theorem kb3 (b : Int64) : (b.toInt32.toUInt32 % 65536).toInt32.toInt64 = b &&& 65535 := by
  obtain ⟨n, hn, rfl⟩ := wb_of b
  rw [lN_i, pk_char, nI_bn, show (65535 : Int64) = lN (2 ^ 16 - 1) from rfl, wb_mask hn (by decide), nI_l (by omega)]
  congr 1
  omega
theorem kb6 (b : Int64) : (2139095040 < b.toInt32 &&& 2147483647) ↔ ((2139095040 : Int64) < b &&& 2147483647) := by
  obtain ⟨n, hn, rfl⟩ := wb_of b
  rw [lN_i, pk_and (nI n) (m := 2147483647) 31 rfl, nI_bn, show (2147483647 : Int64) = lN (2 ^ 31 - 1) from rfl, wb_mask hn (by decide), show (n % 2 ^ 32 % 2 ^ 31) = n % 2 ^ 31 by omega]
  rw [show (2139095040 : Int32) = nI 2139095040 from rfl, show (2139095040 : Int64) = lN 2139095040 from rfl, nI_ltI (by decide) (by omega), pk_lLT (by decide) (by omega)]
