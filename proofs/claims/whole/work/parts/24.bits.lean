/-! ===== bits, of what is not below 0 ===== -/
theorem bv_of {x : Nat} (hx : x < 2147483648) : (Int32.ofInt (x : Int)).toBitVec.toNat = x := by
  rw [Int32.toBitVec_ofInt, BitVec.ofInt_natCast, BitVec.toNat_ofNat]
  exact Nat.mod_eq_of_lt (by omega)
theorem bv_to {z : Int32} {n : Nat} (hn : n < 2147483648) (h : z.toBitVec.toNat = n) : z.toInt = (n : Int) := by
  rw [← Int32.toInt_toBitVec, BitVec.toInt_eq_toNat_of_lt (by rw [h]; omega), h]
theorem iOr_nat {x y : Nat} (hx : x < 2147483648) (hy : y < 2147483648) : iOr (x : Int) (y : Int) = ((x ||| y : Nat) : Int) := by
  unfold iOr
  refine bv_to (Nat.or_lt_two_pow (n := 31) hx hy) ?_
  rw [Int32.toBitVec_or, BitVec.toNat_or, bv_of hx, bv_of hy]
theorem iAnd_nat {x y : Nat} (hx : x < 2147483648) (hy : y < 2147483648) : iAnd (x : Int) (y : Int) = ((x &&& y : Nat) : Int) := by
  unfold iAnd
  refine bv_to (Nat.and_lt_two_pow (n := 31) x hy) ?_
  rw [Int32.toBitVec_and, BitVec.toNat_and, bv_of hx, bv_of hy]
theorem iXor_nat {x y : Nat} (hx : x < 2147483648) (hy : y < 2147483648) : iXor (x : Int) (y : Int) = ((x ^^^ y : Nat) : Int) := by
  unfold iXor
  refine bv_to (Nat.xor_lt_two_pow (n := 31) hx hy) ?_
  rw [Int32.toBitVec_xor, BitVec.toNat_xor, bv_of hx, bv_of hy]
theorem sh_amt : ∀ k : Fin 32, ((Int32.ofInt (k.val : Int) &&& 31).toBitVec.smod 32).toNat = k.val := by decide +kernel
theorem iShr_nat {x k : Nat} (hx : x < 2147483648) (hk : k < 32) : iShr (x : Int) (k : Int) = ((x >>> k : Nat) : Int) := by
  unfold iShr
  have hlt : x >>> k < 2147483648 := by rw [Nat.shiftRight_eq_div_pow]; exact Nat.lt_of_le_of_lt (Nat.div_le_self _ _) hx
  refine bv_to hlt ?_
  have hm : (Int32.ofInt (x : Int)).toBitVec.msb = false := by
    rw [BitVec.msb_eq_decide, bv_of hx]
    simp
    omega
  rw [Int32.toBitVec_shiftRight, BitVec.toNat_sshiftRight'_of_msb_false hm, bv_of hx, sh_amt ⟨k, hk⟩]
theorem iShl_nat {x k : Nat} (hk : k < 31) (h : x * 2 ^ k < 2147483648) : iShl (x : Int) (k : Int) = ((x * 2 ^ k : Nat) : Int) := by
  unfold iShl
  have hx : x < 2147483648 := Nat.lt_of_le_of_lt (Nat.le_mul_of_pos_right x (Nat.two_pow_pos k)) h
  refine bv_to h ?_
  rw [Int32.toBitVec_shiftLeft, BitVec.shiftLeft_eq', BitVec.toNat_shiftLeft, bv_of hx, sh_amt ⟨k, by omega⟩, Nat.shiftLeft_eq]
  show x * 2 ^ k % 2 ^ 32 = x * 2 ^ k
  exact Nat.mod_eq_of_lt (by omega)
theorem nat_of {x : Int} (h : 0 ≤ x) : ∃ n : Nat, x = (n : Int) := ⟨x.toNat, by omega⟩
/-- 1 << k -/
theorem shl1 {k : Nat} (hk : k < 31) : iShl 1 (k : Int) = ((2 ^ k : Nat) : Int) := by
  have h : 2 ^ k < 2147483648 := by
    have : 2 ^ k < 2 ^ 31 := Nat.pow_lt_pow_right (by decide) hk
    omega
  have := iShl_nat (x := 1) hk (by omega)
  rw [Nat.one_mul] at this
  exact this
/-- a bit is in -/
theorem isIn_nat {b k : Nat} (hb : b < 2147483648) (hk : k < 32) : isIn (b : Int) (k : Int) = b.testBit k := by
  unfold isIn
  rw [iShr_nat hb hk]
  have hlt : b >>> k < 2147483648 := by rw [Nat.shiftRight_eq_div_pow]; exact Nat.lt_of_le_of_lt (Nat.div_le_self _ _) hb
  have := iAnd_nat (x := b >>> k) (y := 1) hlt (by decide)
  rw [show ((1 : Nat) : Int) = 1 from rfl] at this
  rw [this, Nat.and_one_is_mod, Nat.testBit_eq_decide_div_mod_eq, Nat.shiftRight_eq_div_pow]
  generalize b / 2 ^ k = z
  exact decide_eq_decide.mpr ⟨fun h => by omega, fun h => by omega⟩
theorem iOr_lt {x y : Int} {n : Nat} (hn : n ≤ 31) (hx : 0 ≤ x ∧ x < 2 ^ n) (hy : 0 ≤ y ∧ y < 2 ^ n) : 0 ≤ iOr x y ∧ iOr x y < 2 ^ n := by
  obtain ⟨a, rfl⟩ := nat_of hx.1
  obtain ⟨b, rfl⟩ := nat_of hy.1
  have h31 : 2 ^ n ≤ 2 ^ 31 := Nat.pow_le_pow_right (by decide) hn
  have ha : a < 2 ^ n := by have := hx.2; exact_mod_cast this
  have hb : b < 2 ^ n := by have := hy.2; exact_mod_cast this
  rw [iOr_nat (by omega) (by omega)]
  refine ⟨by omega, ?_⟩
  have := Nat.or_lt_two_pow ha hb
  exact_mod_cast this
theorem shl1_r {k : Int} (hk : 0 ≤ k ∧ k < 8) : 0 ≤ iShl 1 k ∧ iShl 1 k < 2 ^ 8 := by
  obtain ⟨a, rfl⟩ := nat_of hk.1
  rw [shl1 (by omega)]
  have : 2 ^ a < 2 ^ 8 := Nat.pow_lt_pow_right (by decide) (by omega)
  refine ⟨Int.natCast_nonneg _, ?_⟩
  exact_mod_cast this
