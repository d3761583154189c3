/-! bits -/
theorem z_bv (a : Int) : (Int32.ofInt a).toBitVec = BitVec.ofInt 32 a := rfl
theorem bv_int (b : BitVec 32) : b.toInt = if b.toNat < 2147483648 then (b.toNat : Int) else (b.toNat : Int) - 4294967296 := by
  rw [BitVec.toInt_eq_toNat_cond]
  have := b.isLt
  split <;> split <;> omega
theorem z_nn (a : Int) : ((Int32.ofInt a).toBitVec.toNat : Int) = a % 4294967296 := by
  rw [z_bv, BitVec.toNat_ofInt]
  omega
theorem z_ti (x : Int32) : x.toInt = if x.toBitVec.toNat < 2147483648 then (x.toBitVec.toNat : Int) else (x.toBitVec.toNat : Int) - 4294967296 := bv_int x.toBitVec
theorem zand_mod (a : Int) {k : Nat} (hk : k < 31) : zand a ((2 ^ k - 1 : Nat) : Int) = a % ((2 ^ k : Nat) : Int) := by
  have hp : 2 ^ k ≤ 2 ^ 30 := Nat.pow_le_pow_right (by omega) (by omega)
  have hp0 : 0 < 2 ^ k := Nat.pow_pos (by omega)
  have e2 : (2 : Nat) ^ 30 = 1073741824 := by decide
  unfold zand
  rw [z_ti]
  have e : (Int32.ofInt a &&& Int32.ofInt ((2 ^ k - 1 : Nat) : Int)).toBitVec.toNat = (Int32.ofInt a).toBitVec.toNat % 2 ^ k := by
    rw [Int32.toBitVec_and, BitVec.toNat_and]
    have e3 : (Int32.ofInt ((2 ^ k - 1 : Nat) : Int)).toBitVec.toNat = 2 ^ k - 1 := by
      have := z_nn ((2 ^ k - 1 : Nat) : Int)
      omega
    rw [e3, Nat.and_two_pow_sub_one_eq_mod]
  have hlt := Nat.mod_lt (Int32.ofInt a).toBitVec.toNat hp0
  rw [e, if_pos (by omega)]
  have h1 := z_nn a
  have hd : ((2 ^ k : Nat) : Int) ∣ 4294967296 := by
    have h3 : (2 : Nat) ^ k ∣ 4294967296 := by
      have h4 : (2 : Nat) ^ k ∣ 2 ^ 32 := Nat.pow_dvd_pow 2 (by omega)
      rw [show (2 : Nat) ^ 32 = 4294967296 by decide] at h4
      exact h4
    exact Int.natCast_dvd_natCast.mpr h3
  rw [Int.natCast_emod, h1]
  exact Int.emod_emod_of_dvd a hd
theorem zand_1 (a : Int) : zand a 1 = a % 2 := zand_mod a (k := 1) (by omega)
theorem zand_31 (a : Int) : zand a 31 = a % 32 := zand_mod a (k := 5) (by omega)
theorem zand_63 (a : Int) : zand a 63 = a % 64 := zand_mod a (k := 6) (by omega)
theorem zand_255 (a : Int) : zand a 255 = a % 256 := zand_mod a (k := 8) (by omega)
theorem z_sh {b : Int} (h : 0 ≤ b ∧ b < 32) : (Int32.ofInt b &&& 31) = Int32.ofInt b := by
  have e := zand_31 b
  have h2 : zand b 31 = b := by rw [e]; omega
  have h3 : Int32.ofInt (zand b 31) = Int32.ofInt b := by rw [h2]
  unfold zand at h3
  rw [z_of] at h3
  exact h3
theorem z_sn {b : Int} (h : 0 ≤ b ∧ b < 32) : (Int32.ofInt b).toBitVec.toNat = b.toNat := by
  have := z_nn b
  omega
theorem z_amt {b : Int} (h : 0 ≤ b ∧ b < 32) : (((Int32.ofInt b).toUInt32 &&& Int32.toUInt32 31).toBitVec % 32).toNat = b.toNat := by
  have e : ((Int32.ofInt b).toUInt32 &&& Int32.toUInt32 31).toBitVec = (Int32.ofInt b &&& 31).toBitVec := rfl
  rw [e, z_sh h, BitVec.toNat_umod, z_sn h]
  show b.toNat % 32 = b.toNat
  omega
theorem zushr_i {a b : Int} (h : 0 ≤ b ∧ b < 32) : Int32.ofInt (zushr a b) = Int32.ofInt ((a % 4294967296) / ((2 ^ b.toNat : Nat) : Int)) := by
  apply Int32.toBitVec_inj.mp
  apply BitVec.eq_of_toNat_eq
  have h2 := z_nn ((a % 4294967296) / ((2 ^ b.toNat : Nat) : Int))
  have h0 := z_nn a
  unfold zushr
  rw [z_of]
  have e1 : ((Int32.ofInt a).toUInt32 >>> ((Int32.ofInt b).toUInt32 &&& Int32.toUInt32 31)).toInt32.toBitVec.toNat = (Int32.ofInt a).toBitVec.toNat >>> b.toNat := by
    show ((Int32.ofInt a).toUInt32.toBitVec >>> (((Int32.ofInt b).toUInt32 &&& Int32.toUInt32 31).toBitVec % 32).toNat).toNat = _
    rw [BitVec.toNat_ushiftRight, z_amt h]
    rfl
  rw [e1, Nat.shiftRight_eq_div_pow]
  have hlt := (Int32.ofInt a).toBitVec.isLt
  have hd : (Int32.ofInt a).toBitVec.toNat / 2 ^ b.toNat ≤ (Int32.ofInt a).toBitVec.toNat := Nat.div_le_self _ _
  have e3 : (((Int32.ofInt a).toBitVec.toNat / 2 ^ b.toNat : Nat) : Int) = a % 4294967296 / ((2 ^ b.toNat : Nat) : Int) := by rw [Int.natCast_ediv, h0]
  rw [← e3] at h2 ⊢
  generalize (Int32.ofInt a).toBitVec.toNat / 2 ^ b.toNat = X at *
  omega
theorem zushr_nn {a b : Int} (ha : 0 ≤ a) (hz : zr a) (h : 0 ≤ b ∧ b < 32) : zushr a b = a / ((2 ^ b.toNat : Nat) : Int) := by
  have e := zushr_i (a := a) h
  have hp : (0 : Int) < ((2 ^ b.toNat : Nat) : Int) := by
    have : 0 < 2 ^ b.toNat := Nat.pow_pos (by omega)
    omega
  have e2 : a % 4294967296 = a := by unfold zr at hz; omega
  rw [e2] at e
  have h1 : 0 ≤ a / ((2 ^ b.toNat : Nat) : Int) := Int.ediv_nonneg ha (Int.le_of_lt hp)
  have h2 : a / ((2 ^ b.toNat : Nat) : Int) ≤ a := Int.ediv_le_self _ ha
  exact (z_eq (zr_t _) (by unfold zr at *; omega)).mp e
theorem zshr_i {a b : Int} (hz : zr a) (h : 0 ≤ b ∧ b < 32) : zshr a b = a / ((2 ^ b.toNat : Nat) : Int) := by
  unfold zshr
  rw [z_sh h]
  show ((Int32.ofInt a).toBitVec.sshiftRight' ((Int32.ofInt b).toBitVec.smod 32)).toInt = _
  rw [BitVec.sshiftRight_eq', BitVec.toInt_sshiftRight]
  have e : ((Int32.ofInt b).toBitVec.smod 32).toNat = b.toNat := by
    have h1 : (Int32.ofInt b).toBitVec.toInt = b := z_toInt (by unfold zr; omega)
    have h2 : ((Int32.ofInt b).toBitVec.smod 32).toInt = b := by
      rw [BitVec.toInt_smod, h1]
      show b.fmod 32 = b
      rw [Int.fmod_eq_emod_of_nonneg _ (by omega)]
      omega
    have h3 := bv_int ((Int32.ofInt b).toBitVec.smod 32)
    split at h3 <;> omega
  rw [e, Int.shiftRight_eq_div_pow]
  have h3 : (Int32.ofInt a).toBitVec.toInt = a := z_toInt hz
  rw [h3]
theorem bit_same {a b : Int} (hz : zr a) (h : 0 ≤ b ∧ b < 32) : zand (zushr a b) 1 = zand (zshr a b) 1 := by
  have e1 : zand (zushr a b) 1 = zand ((a % 4294967296) / ((2 ^ b.toNat : Nat) : Int)) 1 := by
    unfold zand
    rw [zushr_i h]
  rw [e1, zand_1, zand_1, zshr_i hz h]
  have hb : b.toNat ≤ 31 := by omega
  by_cases ha : 0 ≤ a
  · have e2 : a % 4294967296 = a := by unfold zr at hz; omega
    rw [e2]
  · have e2 : a % 4294967296 = a + 4294967296 := by unfold zr at hz; omega
    have e3 : (4294967296 : Int) = ((2 ^ b.toNat : Nat) : Int) * (2 * ((2 ^ (31 - b.toNat) : Nat) : Int)) := by
      have : (2 : Nat) ^ b.toNat * (2 * 2 ^ (31 - b.toNat)) = 4294967296 := by
        rw [← Nat.pow_succ', ← Nat.pow_add, show b.toNat + (31 - b.toNat + 1) = 32 by omega]
      have h5 : ((2 ^ b.toNat * (2 * 2 ^ (31 - b.toNat)) : Nat) : Int) = ((4294967296 : Nat) : Int) := congrArg _ this
      rw [Int.natCast_mul, Int.natCast_mul] at h5
      exact h5.symm
    have hp : ((2 ^ b.toNat : Nat) : Int) ≠ 0 := by
      have : 0 < 2 ^ b.toNat := Nat.pow_pos (by omega)
      omega
    rw [e2, e3, Int.add_mul_ediv_left _ _ hp]
    omega
theorem zshl_nn {a b : Int} (ha : 0 ≤ a) (h : 0 ≤ b ∧ b < 31) (hm : a * ((2 ^ b.toNat : Nat) : Int) < 2147483648) : zshl a b = a * ((2 ^ b.toNat : Nat) : Int) := by
  have hp : 0 < 2 ^ b.toNat := Nat.pow_pos (by omega)
  have hle : a ≤ a * ((2 ^ b.toNat : Nat) : Int) := by
    have := Int.mul_le_mul_of_nonneg_left (show (1 : Int) ≤ ((2 ^ b.toNat : Nat) : Int) by omega) ha
    omega
  have e : Int32.ofInt (zshl a b) = Int32.ofInt (a * ((2 ^ b.toNat : Nat) : Int)) := by
    apply Int32.toBitVec_inj.mp
    apply BitVec.eq_of_toNat_eq
    unfold zshl
    rw [z_of, z_sh ⟨h.1, by omega⟩]
    show ((Int32.ofInt a).toBitVec <<< ((Int32.ofInt b).toBitVec.smod 32).toNat).toNat = _
    have e : ((Int32.ofInt b).toBitVec.smod 32).toNat = b.toNat := by
      have h1 : (Int32.ofInt b).toBitVec.toInt = b := z_toInt (by unfold zr; omega)
      have h2 : ((Int32.ofInt b).toBitVec.smod 32).toInt = b := by
        rw [BitVec.toInt_smod, h1]
        show b.fmod 32 = b
        rw [Int.fmod_eq_emod_of_nonneg _ (by omega)]
        omega
      have h3 := bv_int ((Int32.ofInt b).toBitVec.smod 32)
      split at h3 <;> omega
    rw [e, BitVec.toNat_shiftLeft, Nat.shiftLeft_eq]
    have h0 := z_nn a
    have h1 := z_nn (a * ((2 ^ b.toNat : Nat) : Int))
    have e4 : (((Int32.ofInt a).toBitVec.toNat : Nat) : Int) = a := by omega
    have e5 : (((Int32.ofInt a).toBitVec.toNat * 2 ^ b.toNat : Nat) : Int) = a * ((2 ^ b.toNat : Nat) : Int) := by rw [Int.natCast_mul, e4]
    show (Int32.ofInt a).toBitVec.toNat * 2 ^ b.toNat % 4294967296 = _
    generalize hX : (Int32.ofInt a).toBitVec.toNat * 2 ^ b.toNat = X at *
    omega
  exact (z_eq (zr_t _) (by unfold zr; omega)).mp e
theorem zor_add {a b : Int} (ha : 0 ≤ a) (ha2 : a < 33554432) (hb : 0 ≤ b ∧ b < 32) : zor (zshl a 5) b = 32 * a + b := by
  have e0 : zshl a 5 = a * 32 := zshl_nn ha (by omega) (by show a * 32 < 2147483648; omega)
  rw [e0]
  unfold zor
  rw [z_ti, Int32.toBitVec_or, BitVec.toNat_or]
  have h1 := z_nn (a * 32)
  have h2 := z_nn b
  have e1 : (Int32.ofInt (a * 32)).toBitVec.toNat = a.toNat <<< 5 := by rw [Nat.shiftLeft_eq]; omega
  have e2 : (Int32.ofInt b).toBitVec.toNat = b.toNat := by omega
  rw [e1, e2, ← Nat.shiftLeft_add_eq_or_of_lt (by show b.toNat < 32; omega), Nat.shiftLeft_eq]
  rw [if_pos (by omega)]
  omega
theorem zb8_c {a b : Int} (h : a % 256 = b % 256) : zb8 a = zb8 b := by
  unfold zb8
  have e : (Int32.ofInt a).toInt8 = (Int32.ofInt b).toInt8 := by
    apply Int8.toBitVec_inj.mp
    apply BitVec.eq_of_toNat_eq
    show ((BitVec.ofInt 32 a).signExtend 8).toNat = ((BitVec.ofInt 32 b).signExtend 8).toNat
    rw [BitVec.signExtend_eq_setWidth_of_le _ (by omega), BitVec.signExtend_eq_setWidth_of_le _ (by omega), BitVec.toNat_setWidth, BitVec.toNat_setWidth, BitVec.toNat_ofInt, BitVec.toNat_ofInt]
    omega
  rw [e]
theorem zb8_v {a : Int} (h : 0 ≤ a ∧ a < 256) : zb8 a = if a < 128 then a else a - 256 := by
  have e : ∀ n : Nat, n < 256 → zb8 (n : Int) = if (n : Int) < 128 then (n : Int) else (n : Int) - 256 := by decide +kernel
  have := e a.toNat (by omega)
  rw [show ((a.toNat : Nat) : Int) = a by omega] at this
  exact this
theorem byte_same {a b : Int} (hz : zr a) (h : b = 0 ∨ b = 8 ∨ b = 16 ∨ b = 24) : zb8 (zushr a b) = zb8 (zand (zshr a b) 255) := by
  have hb : 0 ≤ b ∧ b < 32 := by omega
  have e1 : zb8 (zushr a b) = zb8 ((a % 4294967296) / ((2 ^ b.toNat : Nat) : Int)) := by
    unfold zb8
    rw [zushr_i hb]
  rw [e1, zand_255, zshr_i hz hb]
  apply zb8_c
  rcases h with rfl | rfl | rfl | rfl
  · show a % 4294967296 / 1 % 256 = a / 1 % 256 % 256; omega
  · show a % 4294967296 / 256 % 256 = a / 256 % 256 % 256; omega
  · show a % 4294967296 / 65536 % 256 = a / 65536 % 256 % 256; omega
  · show a % 4294967296 / 16777216 % 256 = a / 16777216 % 256 % 256; omega
