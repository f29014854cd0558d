/-! ===== plans as words ===== -/
noncomputable def plS (w kind p : Int) : Int := if kind = 3 then iOr w 16777216 else iXor w (iShl 1 (3 * p + kind))
theorem and7 (x : Nat) : x &&& 7 < 8 := Nat.lt_of_le_of_lt Nat.and_le_right (by decide)
theorem fld_r {w j : Int} (hw : 0 ≤ w ∧ w < 33554432) (hj : 0 ≤ j ∧ j ≤ 7) : 0 ≤ iAnd (iShr w (3 * j)) 7 ∧ iAnd (iShr w (3 * j)) 7 ≤ 7 := by
  obtain ⟨n, rfl⟩ := nat_of hw.1
  obtain ⟨j', rfl⟩ := nat_of hj.1
  have h1 : n >>> (3 * j') ≤ n := Nat.shiftRight_le n _
  rw [show (3 : Int) * (j' : Int) = ((3 * j' : Nat) : Int) by omega, iShr_nat (by omega) (by omega), show (7 : Int) = ((7 : Nat) : Int) by rfl, iAnd_nat (by omega) (by omega)]
  have := and7 (n >>> (3 * j'))
  omega
theorem pl_x {w kind p j : Int} (hw : 0 ≤ w ∧ w < 33554432) (hk : 0 ≤ kind ∧ kind ≤ 2) (hp : 0 ≤ p ∧ p ≤ 7) (hj : 0 ≤ j ∧ j ≤ 7) : iAnd (iShr (iXor w (iShl 1 (3 * p + kind))) (3 * j)) 7 = if j = p then iXor (iAnd (iShr w (3 * j)) 7) (iShl 1 kind) else iAnd (iShr w (3 * j)) 7 := by
  obtain ⟨n, rfl⟩ := nat_of hw.1
  obtain ⟨k', rfl⟩ := nat_of hk.1
  obtain ⟨p', rfl⟩ := nat_of hp.1
  obtain ⟨j', rfl⟩ := nat_of hj.1
  have h0 : 2 ^ (3 * p' + k') < 33554432 := Nat.lt_of_le_of_lt (Nat.pow_le_pow_right (by decide) (show 3 * p' + k' ≤ 24 by omega)) (by decide)
  have h0k : 2 ^ k' < 33554432 := Nat.lt_of_le_of_lt (Nat.pow_le_pow_right (by decide) (show k' ≤ 24 by omega)) (by decide)
  have hx : n ^^^ 2 ^ (3 * p' + k') < 2 ^ 25 := Nat.xor_lt_two_pow (by omega) (by omega)
  have h1 : n >>> (3 * j') ≤ n := Nat.shiftRight_le n _
  have h2 : (n ^^^ 2 ^ (3 * p' + k')) >>> (3 * j') ≤ (n ^^^ 2 ^ (3 * p' + k')) := Nat.shiftRight_le _ _
  have h3 := and7 (n >>> (3 * j'))
  have e25 : (2 : Nat) ^ 25 = 33554432 := by decide
  rw [show (3 : Int) * (j' : Int) = ((3 * j' : Nat) : Int) by omega, show (3 : Int) * (p' : Int) + (k' : Int) = ((3 * p' + k' : Nat) : Int) by omega, shl1 (by omega), shl1 (by omega), iXor_nat (by omega) (by omega), iShr_nat (by omega) (by omega), iShr_nat (by omega) (by omega), show (7 : Int) = ((7 : Nat) : Int) by rfl, iAnd_nat (by omega) (by omega), iAnd_nat (by omega) (by omega), iXor_nat (by omega) (by omega)]
  have key : (n ^^^ 2 ^ (3 * p' + k')) >>> (3 * j') &&& 7 = if j' = p' then (n >>> (3 * j') &&& 7) ^^^ 2 ^ k' else n >>> (3 * j') &&& 7 := by
    refine Nat.eq_of_testBit_eq fun i => ?_
    rw [show (7 : Nat) = 2 ^ 3 - 1 by rfl]
    split
    · rename_i e
      subst e
      simp only [Nat.testBit_and, Nat.testBit_shiftRight, Nat.testBit_xor, Nat.testBit_two_pow_sub_one, Nat.testBit_two_pow]
      by_cases hi : i < 3
      · simp only [hi, decide_true, Bool.and_true]
        congr 1
        simp only [decide_eq_decide]
        omega
      · have : ¬ k' = i := by omega
        simp [hi, this]
    · rename_i e
      simp only [Nat.testBit_and, Nat.testBit_shiftRight, Nat.testBit_xor, Nat.testBit_two_pow_sub_one, Nat.testBit_two_pow]
      by_cases hi : i < 3
      · have : ¬ (3 * p' + k' = 3 * j' + i) := by omega
        simp [hi, this]
      · simp [hi]
  rw [key]
  by_cases e : j' = p'
  · rw [if_pos e, if_pos (by omega)]
  · rw [if_neg e, if_neg (by omega)]
theorem pl_xh {w b : Int} (hw : 0 ≤ w ∧ w < 33554432) (hb : 0 ≤ b ∧ b ≤ 23) : (0 ≤ iXor w (iShl 1 b) ∧ iXor w (iShl 1 b) < 33554432) ∧ iAnd (iXor w (iShl 1 b)) 16777216 = iAnd w 16777216 := by
  obtain ⟨n, rfl⟩ := nat_of hw.1
  obtain ⟨k', rfl⟩ := nat_of hb.1
  have h0 : 2 ^ k' < 33554432 := Nat.lt_of_le_of_lt (Nat.pow_le_pow_right (by decide) (show k' ≤ 24 by omega)) (by decide)
  have hx : n ^^^ 2 ^ k' < 2 ^ 25 := Nat.xor_lt_two_pow (by omega) (by omega)
  have e25 : (2 : Nat) ^ 25 = 33554432 := by decide
  rw [shl1 (by omega), iXor_nat (by omega) (by omega), show (16777216 : Int) = ((16777216 : Nat) : Int) by rfl, iAnd_nat (by omega) (by omega), iAnd_nat (by omega) (by omega)]
  refine ⟨by omega, ?_⟩
  have key : (n ^^^ 2 ^ k') &&& 16777216 = n &&& 16777216 := by
    refine Nat.eq_of_testBit_eq fun i => ?_
    rw [show (16777216 : Nat) = 2 ^ 24 by rfl]
    simp only [Nat.testBit_and, Nat.testBit_xor, Nat.testBit_two_pow]
    by_cases hi : 24 = i
    · have : ¬ k' = i := by omega
      simp [this]
    · simp [hi]
  rw [key]
theorem pl_o {w j : Int} (hw : 0 ≤ w ∧ w < 33554432) (hj : 0 ≤ j ∧ j ≤ 7) : (0 ≤ iOr w 16777216 ∧ iOr w 16777216 < 33554432) ∧ ¬ iAnd (iOr w 16777216) 16777216 = 0 ∧ iAnd (iShr (iOr w 16777216) (3 * j)) 7 = iAnd (iShr w (3 * j)) 7 := by
  obtain ⟨n, rfl⟩ := nat_of hw.1
  obtain ⟨j', rfl⟩ := nat_of hj.1
  have hx : n ||| 16777216 < 2 ^ 25 := Nat.or_lt_two_pow (by omega) (by omega)
  have e25 : (2 : Nat) ^ 25 = 33554432 := by decide
  have h1 : n >>> (3 * j') ≤ n := Nat.shiftRight_le n _
  have h2 : (n ||| 16777216) >>> (3 * j') ≤ (n ||| 16777216) := Nat.shiftRight_le _ _
  rw [show (3 : Int) * (j' : Int) = ((3 * j' : Nat) : Int) by omega, show (16777216 : Int) = ((16777216 : Nat) : Int) by rfl, iOr_nat (by omega) (by omega), iAnd_nat (by omega) (by omega), iShr_nat (by omega) (by omega), iShr_nat (by omega) (by omega), show (7 : Int) = ((7 : Nat) : Int) by rfl, iAnd_nat (by omega) (by omega), iAnd_nat (by omega) (by omega)]
  refine ⟨by omega, ?_, ?_⟩
  · have key : (n ||| 16777216) &&& 16777216 = 16777216 := by
      refine Nat.eq_of_testBit_eq fun i => ?_
      rw [show (16777216 : Nat) = 2 ^ 24 by rfl]
      simp only [Nat.testBit_and, Nat.testBit_or, Nat.testBit_two_pow]
      by_cases hi : 24 = i <;> simp [hi]
    rw [key]
    decide
  · have key : (n ||| 16777216) >>> (3 * j') &&& 7 = n >>> (3 * j') &&& 7 := by
      refine Nat.eq_of_testBit_eq fun i => ?_
      rw [show (7 : Nat) = 2 ^ 3 - 1 by rfl, show (16777216 : Nat) = 2 ^ 24 by rfl]
      simp only [Nat.testBit_and, Nat.testBit_shiftRight, Nat.testBit_or, Nat.testBit_two_pow_sub_one, Nat.testBit_two_pow]
      by_cases hi : i < 3
      · have : ¬ (24 = 3 * j' + i) := by omega
        simp [hi, this]
      · simp [hi]
    rw [key]
theorem x8 : ∀ a b : Fin 8, (0 ≤ iXor (a.val : Int) (b.val : Int) ∧ iXor (a.val : Int) (b.val : Int) ≤ 7) ∧ (iXor (a.val : Int) (b.val : Int) = 0 ↔ a = b) ∧ (0 ≤ iXor (a.val : Int) (iAnd (iXor (a.val : Int) (b.val : Int)) (wI (-(iXor (a.val : Int) (b.val : Int))))) ∧ iXor (a.val : Int) (iAnd (iXor (a.val : Int) (b.val : Int)) (wI (-(iXor (a.val : Int) (b.val : Int))))) ≤ 7) := by decide +kernel
theorem x8i {a b : Int} (ha : 0 ≤ a ∧ a ≤ 7) (hb : 0 ≤ b ∧ b ≤ 7) : (0 ≤ iXor a b ∧ iXor a b ≤ 7) ∧ (iXor a b = 0 ↔ a = b) ∧ (0 ≤ iXor a (iAnd (iXor a b) (wI (-(iXor a b)))) ∧ iXor a (iAnd (iXor a b) (wI (-(iXor a b)))) ≤ 7) := by
  have h := x8 ⟨a.toNat, by omega⟩ ⟨b.toNat, by omega⟩
  simp only [Fin.mk.injEq] at h
  rw [show ((a.toNat : Nat) : Int) = a by omega, show ((b.toNat : Nat) : Int) = b by omega] at h
  refine ⟨h.1, ?_, h.2.2⟩
  rw [h.2.1]
  omega
theorem x8a : ∀ a b c : Fin 8, iXor (iXor (a.val : Int) (b.val : Int)) (c.val : Int) = iXor (a.val : Int) (iXor (b.val : Int) (c.val : Int)) := by decide +kernel
theorem x8s {a b c : Int} (ha : 0 ≤ a ∧ a ≤ 7) (hb : 0 ≤ b ∧ b ≤ 7) (hc : 0 ≤ c ∧ c ≤ 7) : iXor (iXor a b) c = iXor a (iXor b c) := by
  have h := x8a ⟨a.toNat, by omega⟩ ⟨b.toNat, by omega⟩ ⟨c.toNat, by omega⟩
  simp only [] at h
  rw [show ((a.toNat : Nat) : Int) = a by omega, show ((b.toNat : Nat) : Int) = b by omega, show ((c.toNat : Nat) : Int) = c by omega] at h
  exact h
