/-! ===== the class: chance, the numbers ===== -/
theorem bvL_of {x : Nat} (hx : x < 9223372036854775808) : (Int64.ofInt (x : Int)).toBitVec.toNat = x := by
  rw [Int64.toBitVec_ofInt, BitVec.ofInt_natCast, BitVec.toNat_ofNat]
  exact Nat.mod_eq_of_lt (by omega)
theorem bvL_to {z : Int64} {n : Nat} (hn : n < 9223372036854775808) (h : z.toBitVec.toNat = n) : z.toInt = (n : Int) := by
  rw [← Int64.toInt_toBitVec, BitVec.toInt_eq_toNat_of_lt (by rw [h]; omega), h]
theorem lAnd_1 {x : Int} (h : 0 ≤ x ∧ x < 9223372036854775808) : lAnd x 1 = x % 2 := by
  obtain ⟨a, rfl⟩ := nat_of h.1
  have e : lAnd (a : Int) 1 = ((a &&& 1 : Nat) : Int) := by
    unfold lAnd
    refine bvL_to (by rw [Nat.and_one_is_mod]; omega) ?_
    have e1 : (Int64.ofInt 1).toBitVec.toNat = 1 := by decide +kernel
    rw [Int64.toBitVec_and, BitVec.toNat_and, bvL_of (by omega), e1]
  rw [e, Nat.and_one_is_mod]
  omega
theorem shL_amt : (((Int32.ofInt 1).toInt64 &&& 63).toBitVec.smod 64).toNat = 1 := by decide +kernel
theorem lShr_1 {x : Int} (h : 0 ≤ x ∧ x < 9223372036854775808) : lShr x 1 = x / 2 := by
  obtain ⟨a, rfl⟩ := nat_of h.1
  have ha : a < 9223372036854775808 := by omega
  have e : lShr (a : Int) 1 = ((a >>> 1 : Nat) : Int) := by
    unfold lShr
    have hlt : a >>> 1 < 9223372036854775808 := by rw [Nat.shiftRight_eq_div_pow]; omega
    refine bvL_to hlt ?_
    have hm : (Int64.ofInt (a : Int)).toBitVec.msb = false := by
      rw [BitVec.msb_eq_decide, bvL_of ha]
      simp
      omega
    rw [Int64.toBitVec_shiftRight, BitVec.toNat_sshiftRight'_of_msb_false hm, bvL_of ha, shL_amt]
  rw [e, Nat.shiftRight_eq_div_pow]
  omega
theorem cm_bit {n sub e : Int} (hn : 0 ≤ n ∧ n ≤ 8) (hs : 0 ≤ sub ∧ sub < iShl 1 n) (he : 0 ≤ e ∧ e < n) : isIn sub e = true ↔ ¬ isIn (iShl 1 n - 1 - sub) e = true := by
  obtain ⟨a, rfl⟩ := nat_of hn.1
  rw [shl1 (by omega)] at hs ⊢
  obtain ⟨x, rfl⟩ := nat_of hs.1
  obtain ⟨i, rfl⟩ := nat_of he.1
  have h8 : 2 ^ a ≤ 2 ^ 8 := Nat.pow_le_pow_right (by decide) (by omega)
  have hx : x < 2 ^ a := by have := hs.2; exact_mod_cast this
  have e1 : ((2 ^ a : Nat) : Int) - 1 - (x : Int) = ((2 ^ a - (x + 1) : Nat) : Int) := by omega
  rw [e1, isIn_nat (by omega) (by omega), isIn_nat (by omega) (by omega), Nat.testBit_two_pow_sub_succ hx]
  have hi : decide (i < a) = true := decide_eq_true (by omega)
  rw [hi]
  cases x.testBit i <;> decide
theorem hi_bit {n sub e : Int} (hn : 0 ≤ n ∧ n ≤ 8) (hs : 0 ≤ sub ∧ sub < iShl 1 n) (he : n ≤ e ∧ e < 8) : ¬ isIn sub e = true := by
  obtain ⟨a, rfl⟩ := nat_of hn.1
  rw [shl1 (by omega)] at hs
  obtain ⟨x, rfl⟩ := nat_of hs.1
  obtain ⟨i, rfl⟩ := nat_of (show 0 ≤ e by omega)
  have h8 : 2 ^ a ≤ 2 ^ 8 := Nat.pow_le_pow_right (by decide) (by omega)
  have hx : x < 2 ^ a := by have := hs.2; exact_mod_cast this
  have h9 : 2 ^ a ≤ 2 ^ i := Nat.pow_le_pow_right (by decide) (by omega)
  rw [isIn_nat (by omega) (by omega), Nat.testBit_lt_two_pow (by omega)]
  decide
noncomputable def pcF (sub i : Int) : Int := forR 0 i (fun j m => m + bI (isIn sub j = true)) 0
theorem pcF_s {sub i : Int} (h : 0 ≤ i) : pcF sub (i + 1) = pcF sub i + bI (isIn sub i = true) := forR_succ h
theorem pcF_0 (sub : Int) : pcF sub 0 = 0 := forR_nil (Int.le_refl _)
theorem pcF_r (sub : Int) {i : Int} (h : 0 ≤ i) : 0 ≤ pcF sub i ∧ pcF sub i ≤ i := by
  unfold pcF
  refine forR_inv (lo := 0) (hi := i) (fun j m => 0 ≤ m ∧ m ≤ j) h (by omega) (fun j m a b hm => ?_)
  rcases bI_r (isIn sub j = true) with e | e
  · rw [e]; omega
  · rw [e]; omega
theorem pcF_n {n sub : Int} (hn : 0 ≤ n ∧ n ≤ 8) (hs : 0 ≤ sub ∧ sub < iShl 1 n) : pcF sub n = popc sub := by
  have key : ∀ d : Nat, n + d ≤ 8 → pcF sub (n + d) = pcF sub n := by
    intro d
    induction d with
    | zero => intro _; rw [show n + ((0 : Nat) : Int) = n by omega]
    | succ d ih =>
      intro h
      rw [show n + ((d + 1 : Nat) : Int) = n + d + 1 by omega, pcF_s (by omega), ih (by omega), bI_0 (hi_bit hn hs (by omega))]
      omega
  have z := key (8 - n).toNat (by omega)
  rw [show n + (((8 - n).toNat : Nat) : Int) = 8 by omega] at z
  rw [← z]
  rfl
noncomputable def tmS (c n sub : Int) : Int := c ^ (popc sub).toNat * (16 - c) ^ (n - popc sub).toNat
theorem ch_term {c n sub mv : Int} (hn : 0 ≤ n ∧ n ≤ 8) (hs : 0 ≤ sub ∧ sub < iShl 1 n) : forR 0 n (chW c (iShl 1 n - 1 - sub)) mv = mv * tmS c n sub := by
  have key : forR 0 n (chW c (iShl 1 n - 1 - sub)) mv = mv * (c ^ (pcF sub n).toNat * (16 - c) ^ (n - pcF sub n).toNat) := by
    have h0 : n ≤ n := Int.le_refl _
    refine (forR_inv (lo := 0) (hi := n) (f := chW c (iShl 1 n - 1 - sub)) (a := mv) (fun i w => i ≤ n ∧ w = mv * (c ^ (pcF sub i).toNat * (16 - c) ^ (i - pcF sub i).toNat)) hn.1 ⟨hn.1, ?_⟩ (fun i w a b hw => ⟨by omega, ?_⟩)).2
    · rw [pcF_0]
      show mv = mv * (c ^ 0 * (16 - c) ^ 0)
      rw [Int.pow_zero, Int.pow_zero, Int.mul_one, Int.mul_one]
    · have r := pcF_r sub a
      unfold chW
      rw [hw.2, pcF_s a]
      by_cases e : isIn sub i = true
      · rw [if_neg ((cm_bit hn hs (by omega)).mp e), bI_1 e, show (pcF sub i + 1).toNat = (pcF sub i).toNat + 1 by omega, show (i + 1 - (pcF sub i + 1)).toNat = (i - pcF sub i).toNat by omega, Int.pow_succ]
        generalize c ^ (pcF sub i).toNat = u
        generalize (16 - c) ^ (i - pcF sub i).toNat = v
        rw [Int.mul_assoc, Int.mul_assoc u v c, Int.mul_comm v c, Int.mul_assoc u c v]
      · rw [if_pos (Classical.byContradiction fun z => e ((cm_bit hn hs (by omega)).mpr z)), bI_0 e, Int.add_zero, show (i + 1 - pcF sub i).toNat = (i - pcF sub i).toNat + 1 by omega, Int.pow_succ]
        generalize c ^ (pcF sub i).toNat = u
        generalize (16 - c) ^ (i - pcF sub i).toNat = v
        rw [Int.mul_assoc, Int.mul_assoc u v (16 - c)]
  rw [key, pcF_n hn hs]
  rfl
/-- sums, turned round -/
noncomputable def smR (F : Int → Int) (m : Int) : Int := forR 0 m (fun s a => a + F s) 0
theorem smR_s {F : Int → Int} {m : Int} (h : 0 ≤ m) : smR F (m + 1) = smR F m + F m := forR_succ h
theorem smR_0 (F : Int → Int) : smR F 0 = 0 := forR_nil (Int.le_refl _)
theorem smR_shift (F : Int → Int) : ∀ m : Nat, smR F ((m : Int) + 1) = F 0 + smR (fun s => F (s + 1)) m := by
  intro m
  induction m with
  | zero =>
    rw [show ((0 : Nat) : Int) + 1 = 0 + 1 from rfl, smR_s (Int.le_refl _), smR_0, show ((0 : Nat) : Int) = 0 from rfl, smR_0]
    omega
  | succ m ih =>
    rw [smR_s (by omega), show ((m + 1 : Nat) : Int) = (m : Int) + 1 by omega, ih, smR_s (F := fun s => F (s + 1)) (by omega)]
    show F 0 + smR (fun s => F (s + 1)) (m : Int) + F ((m : Int) + 1) = F 0 + (smR (fun s => F (s + 1)) (m : Int) + F ((m : Int) + 1))
    omega
theorem smR_rev : ∀ (m : Nat) (F : Int → Int), smR (fun s => F ((m : Int) - 1 - s)) m = smR F m := by
  intro m
  induction m with
  | zero => intro F; rw [show ((0 : Nat) : Int) = 0 from rfl, smR_0, smR_0]
  | succ m ih =>
    intro F
    rw [show ((m + 1 : Nat) : Int) = (m : Int) + 1 by omega, smR_shift, smR_s (by omega), ← ih F]
    show F ((m : Int) + 1 - 1 - 0) + smR (fun s => F ((m : Int) + 1 - 1 - (s + 1))) (m : Int) = smR (fun s => F ((m : Int) - 1 - s)) (m : Int) + F (m : Int)
    rw [show (fun s : Int => F ((m : Int) + 1 - 1 - (s + 1))) = (fun s => F ((m : Int) - 1 - s)) from funext fun s => by rw [show (m : Int) + 1 - 1 - (s + 1) = (m : Int) - 1 - s by omega], show (m : Int) + 1 - 1 - 0 = (m : Int) by omega]
    omega
noncomputable def chC (M : Mem) (c k n : Int) : Int → Int → Int := fun sub a => if isIn (M 9 sub) k = true then a + tmS c n sub else a
theorem chC_eq {M R : Mem} {c k : Int} (hn : 0 ≤ R 44 9 ∧ R 44 9 ≤ 8) (hk : 0 ≤ k ∧ k < R 44 7) (hp : R 44 7 ≤ 8) (hM : ∀ sub, 0 ≤ sub → sub < iShl 1 (R 44 9) → MvB (M 9 sub) R (iShl 1 (R 44 9) - 1 - sub)) : forR 0 (iShl 1 (R 44 9)) (chC M c k (R 44 9)) 0 = chAb R c k := by
  have h256 := shl1_8 hn
  obtain ⟨m, em⟩ := nat_of (x := iShl 1 (R 44 9)) (by omega)
  have e1 : chAb R c k = smR (fun s => forR 0 (R 44 9) (chW c s) (chMv R k s)) (iShl 1 (R 44 9)) := rfl
  rw [e1]
  have e2 : forR 0 (iShl 1 (R 44 9)) (chC M c k (R 44 9)) 0 = smR (fun s => forR 0 (R 44 9) (chW c (iShl 1 (R 44 9) - 1 - s)) (chMv R k (iShl 1 (R 44 9) - 1 - s))) (iShl 1 (R 44 9)) := forR_cong fun sub a u v => by
    unfold chC
    show (if isIn (M 9 sub) k = true then a + tmS c (R 44 9) sub else a) = a + forR 0 (R 44 9) (chW c (iShl 1 (R 44 9) - 1 - sub)) (chMv R k (iShl 1 (R 44 9) - 1 - sub))
    rw [ch_term hn ⟨u, v⟩]
    unfold chMv
    have z := (hM sub u v).2 k hk.1 (by omega)
    by_cases e : isIn (M 9 sub) k = true
    · rw [if_pos e, if_pos (z.mp e).2, Int.one_mul]
    · rw [if_neg e, if_neg (fun y => e (z.mpr ⟨hk.2, y⟩)), Int.zero_mul, Int.add_zero]
  rw [e2, em]
  exact smR_rev m (fun s => forR 0 (R 44 9) (chW c s) (chMv R k s))
theorem pow_bd {c : Int} (hc : 0 ≤ c ∧ c ≤ 16) (n : Nat) : 0 ≤ c ^ n ∧ c ^ n ≤ (16 : Int) ^ n := by
  induction n with
  | zero => rw [Int.pow_zero, Int.pow_zero]; omega
  | succ n ih =>
    rw [Int.pow_succ, Int.pow_succ]
    exact ⟨Int.mul_nonneg ih.1 hc.1, Int.mul_le_mul ih.2 hc.2 hc.1 (by omega)⟩
theorem pow16 {n : Nat} (h : n ≤ 8) : (16 : Int) ^ n ≤ 4294967296 := by
  have key : ∀ k : Fin 9, (16 : Int) ^ k.val ≤ 4294967296 := by decide +kernel
  exact key ⟨n, by omega⟩
theorem pow_ok {b e : Int} (hb : 0 ≤ b ∧ b ≤ 16) (he : 0 ≤ e ∧ e ≤ 8) : forR 0 e (powF b) 1 = b ^ e.toNat := by
  refine (forR_inv (lo := 0) (hi := e) (f := powF b) (a := 1) (fun i p => i ≤ e ∧ p = b ^ i.toNat) he.1 ⟨he.1, (Int.pow_zero b).symm⟩ (fun i p a c hp => ⟨by omega, ?_⟩)).2
  unfold powF
  rw [hp.2, show (i + 1).toNat = i.toNat + 1 by omega, Int.pow_succ]
  have z := pow_bd hb i.toNat
  have y := pow16 (n := i.toNat) (by omega)
  have x := mul_bd (w := b ^ i.toNat) (x := b) (p := 4294967296) (by omega) hb
  exact wL_small (by omega)
theorem tm_ok {c n sub : Int} (hc : 0 ≤ c ∧ c ≤ 16) (hn : 0 ≤ n ∧ n ≤ 8) (hs : 0 ≤ popc sub ∧ popc sub ≤ n) : wL (forR 0 (popc sub) (powF c) 1 * forR 0 (n - popc sub) (powF (16 - c)) 1) = tmS c n sub ∧ 0 ≤ tmS c n sub ∧ tmS c n sub ≤ 4294967296 := by
  rw [pow_ok hc (by omega), pow_ok (b := 16 - c) (by omega) (by omega)]
  have z1 := pow_bd hc (popc sub).toNat
  have z2 := pow_bd (c := 16 - c) (by omega) (n - popc sub).toNat
  have b : 0 ≤ tmS c n sub ∧ tmS c n sub ≤ 4294967296 := by
    unfold tmS
    refine ⟨Int.mul_nonneg z1.1 z2.1, Int.le_trans (Int.mul_le_mul z1.2 z2.2 z2.1 (Int.le_trans z1.1 z1.2)) ?_⟩
    rw [← Int.pow_add]
    exact pow16 (by omega)
  refine ⟨wL_small ?_, b⟩
  have b' : 0 ≤ c ^ (popc sub).toNat * (16 - c) ^ (n - popc sub).toNat ∧ c ^ (popc sub).toNat * (16 - c) ^ (n - popc sub).toNat ≤ 4294967296 := b
  omega
/-- halving both until one is odd, or one -/
theorem half_part {A n h a b w : Int} (hn : 0 ≤ n) (hh : 0 ≤ h ∧ h ≤ 4 * n) (ea : a * 2 ^ h.toNat = A) (eb : b * 2 ^ h.toNat = pw n) (ha : 0 ≤ a) (hb : 0 < b) (hx : h = 4 * n ∨ a % 2 = 1) : partS A (pw n) w = if w = 0 then a else b := by
  obtain ⟨x, rfl⟩ := nat_of ha
  obtain ⟨y, rfl⟩ := nat_of (Int.le_of_lt hb)
  have c2 : ((2 ^ h.toNat : Nat) : Int) = (2 : Int) ^ h.toNat := by rw [Int.natCast_pow]; rfl
  have hpos : 0 < 2 ^ h.toNat := Nat.two_pow_pos _
  have eA : A = ((x * 2 ^ h.toNat : Nat) : Int) := by rw [Int.natCast_mul, c2]; exact ea.symm
  have eB : pw n = ((y * 2 ^ h.toNat : Nat) : Int) := by rw [Int.natCast_mul, c2]; exact eb.symm
  have eP : pw n = ((2 ^ (4 * n).toNat : Nat) : Int) := by
    unfold pw
    rw [show (4 * n).toNat = 4 * n.toNat by omega, Nat.pow_mul, Int.natCast_pow]
    rfl
  have ey : y = 2 ^ (4 * n - h).toNat := by
    have e1 : y * 2 ^ h.toNat = 2 ^ (4 * n).toNat := by
      have : ((y * 2 ^ h.toNat : Nat) : Int) = ((2 ^ (4 * n).toNat : Nat) : Int) := by rw [← eB, eP]
      exact_mod_cast this
    have e2 : 2 ^ (4 * n).toNat = 2 ^ (4 * n - h).toNat * 2 ^ h.toNat := by
      rw [← Nat.pow_add]
      congr 1
      omega
    exact Nat.eq_of_mul_eq_mul_right hpos (e1.trans e2)
  have hg : Nat.gcd x y = 1 := by
    rcases hx with hx | hx
    · rw [ey, hx, show (4 * n - 4 * n).toNat = 0 by omega, Nat.pow_zero, Nat.gcd_one_right]
    · have c : Nat.Coprime x 2 := by
        show Nat.gcd x 2 = 1
        rw [Nat.gcd_comm, Nat.gcd_rec, show x % 2 = 1 by omega]
        decide
      rw [ey]
      exact Nat.Coprime.pow_right _ c
  unfold partS
  rw [eA, eB, Int.toNat_natCast, Int.toNat_natCast, Nat.gcd_mul_right, hg, Nat.one_mul]
  by_cases hw : w = 0
  · rw [if_pos hw, if_pos hw, ← Int.natCast_ediv, Nat.mul_div_cancel _ hpos]
  · rw [if_neg hw, if_neg hw, ← Int.natCast_ediv, Nat.mul_div_cancel _ hpos]
