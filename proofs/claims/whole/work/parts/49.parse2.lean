/-! ===== the class: a byte is read ===== -/
theorem isIn_or10 {m p x : Int} (hm : 0 ≤ m ∧ m < 1024) (hp : 0 ≤ p ∧ p ≤ 9) (hx : 0 ≤ x ∧ x ≤ 9) : (isIn (iOr m (iShl 1 p)) x = true ↔ isIn m x = true ∨ x = p) ∧ 0 ≤ iOr m (iShl 1 p) ∧ iOr m (iShl 1 p) < 1024 := by
  obtain ⟨m', rfl⟩ := nat_of hm.1
  obtain ⟨p', rfl⟩ := nat_of hp.1
  obtain ⟨x', rfl⟩ := nat_of hx.1
  have h0 : 2 ^ p' < 1024 := Nat.lt_of_le_of_lt (Nat.pow_le_pow_right (by decide) (show p' ≤ 9 by omega)) (by decide)
  have e10 : (2 : Nat) ^ 10 = 1024 := by decide
  have ho : m' ||| 2 ^ p' < 2 ^ 10 := Nat.or_lt_two_pow (by omega) (by omega)
  rw [shl1 (by omega), iOr_nat (by omega) (by omega), isIn_nat (by omega) (by omega), isIn_nat (by omega) (by omega), Nat.testBit_or, Nat.testBit_two_pow]
  refine ⟨?_, by omega⟩
  simp only [Bool.or_eq_true, decide_eq_true_eq]
  exact or_congr Iff.rfl (by omega)
theorem PI_0 (N K : Mem) : PI N K 0 0 := by
  have hz : ∀ v : Fin 10, ¬ isIn 0 (v.val : Int) = true := by decide +kernel
  refine ⟨fun p a b => by omega, fun p a b => by omega, fun p a b => by omega, by omega, fun v a b => ⟨fun z => ?_, fun ⟨k, c, d, e⟩ => by omega⟩⟩
  have := hz ⟨v.toNat, by omega⟩
  simp only [] at this
  rw [show ((v.toNat : Nat) : Int) = v by omega] at this
  exact absurd z this
theorem PI_step {N N' K : Mem} {i tk tk' v : Int} (h : PI N K i tk) (hi : 0 ≤ i ∧ i < 31) (hv : 0 ≤ v ∧ v ≤ 9) (e15 : ∀ p, N' 15 p = if i % 4 = 0 ∧ p = i / 4 then v else N 15 p) (e16 : ∀ p, N' 16 p = if i % 4 = 1 ∧ p = i / 4 then v else N 16 p) (e17 : ∀ p, N' 17 p = if i % 4 = 2 ∧ p = i / 4 then v else N 17 p) (et : tk' = if i % 4 = 2 then iOr tk (iShl 1 v) else tk) : PI N' (rdT K i v) (i + 1) tk' := by
  obtain ⟨h1, h2, h3, h4, h5⟩ := h
  have er : ∀ j, rdT K i v 50 j = if i % 4 < 3 ∧ j = 3 * (i / 4) + i % 4 then v else K 50 j := fun j => by
    unfold rdT
    rw [rd_ne (by decide)]
    by_cases e : i % 4 < 3
    · rw [if_pos e, upm_same]
      unfold ups
      by_cases e2 : j = 3 * (i / 4) + i % 4
      · rw [if_pos e2, if_pos ⟨e, e2⟩]
      · rw [if_neg e2, if_neg (fun z => e2 z.2)]
    · rw [if_neg e, if_neg (fun z => e z.1)]
  refine ⟨fun p a b => ?_, fun p a b => ?_, fun p a b => ?_, ?_, fun x a b => ?_⟩
  · rw [e15, er]
    by_cases e : i % 4 = 0 ∧ p = i / 4
    · rw [if_pos e, if_pos (by omega)]
    · rw [if_neg e, if_neg (by omega)]
      exact h1 p a (by omega)
  · rw [e16, er]
    by_cases e : i % 4 = 1 ∧ p = i / 4
    · rw [if_pos e, if_pos (by omega)]
    · rw [if_neg e, if_neg (by omega)]
      exact h2 p a (by omega)
  · rw [e17, er]
    by_cases e : i % 4 = 2 ∧ p = i / 4
    · rw [if_pos e, if_pos (by omega)]
    · rw [if_neg e, if_neg (by omega)]
      exact h3 p a (by omega)
  · rw [et]
    split
    · exact (isIn_or10 h4 hv (x := 0) (by omega)).2
    · exact h4
  · rw [et]
    by_cases e : i % 4 = 2
    · rw [if_pos e, (isIn_or10 h4 hv (x := x) (by omega)).1, h5 x a b]
      constructor
      · rintro (⟨k, c, d, f⟩ | z)
        · exact ⟨k, c, by omega, by rw [er, if_neg (by omega)]; exact f⟩
        · exact ⟨i / 4, by omega, by omega, by rw [er, if_pos (by omega), z]⟩
      · rintro ⟨k, c, d, f⟩
        rw [er] at f
        by_cases e2 : k = i / 4
        · rw [if_pos (by omega)] at f
          exact Or.inr f.symm
        · rw [if_neg (by omega)] at f
          exact Or.inl ⟨k, c, by omega, f⟩
    · rw [if_neg e, h5 x a b]
      constructor
      · rintro ⟨k, c, d, f⟩
        exact ⟨k, c, by omega, by rw [er, if_neg (by omega)]; exact f⟩
      · rintro ⟨k, c, d, f⟩
        rw [er, if_neg (by omega)] at f
        exact ⟨k, c, by omega, f⟩
