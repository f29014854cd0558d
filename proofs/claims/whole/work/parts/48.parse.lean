/-! ===== the class: the text is parsed ===== -/
theorem k_sortOf (G : GT) (M : Mem) (b : Int) : AM G yX3_sortOf cX3_sortOf 1 (some .int) 0 M [vI b] (qI (if b = 115 then 0 else if b = 116 then 1 else if b = 110 then 2 else -1) M) := by
  refine AM.mk (own := RX3) rfl ss_X3_sortOf.1.2.2.2.2.2 (Nat.le_of_ble_eq_true rfl) rfl ?_
  refine a_iload_n (kX3_sortOf.at 0 rfl) 0 rfl ?_
  refine a_bipush (kX3_sortOf.at 1 rfl) rfl rfl ?_
  refine a_icmpne (tgt := 8) (kX3_sortOf.at 2 rfl) (by decide) (fun h3 => ?_) (fun h3 => ?_)
  · refine a_iload_n (kX3_sortOf.at 5 rfl) 0 rfl ?_
    refine a_bipush (kX3_sortOf.at 6 rfl) rfl rfl ?_
    refine a_icmpne (tgt := 16) (kX3_sortOf.at 7 rfl) (by decide) (fun h11 => ?_) (fun h11 => ?_)
    · refine a_iload_n (kX3_sortOf.at 10 rfl) 0 rfl ?_
      refine a_bipush (kX3_sortOf.at 11 rfl) rfl rfl ?_
      refine a_icmpne (tgt := 26) (kX3_sortOf.at 12 rfl) (by decide) (fun h19 => ?_) (fun h19 => ?_)
      · refine a_iconst (kX3_sortOf.at 15 rfl) rfl ?_
        exact a_iretE (kX3_sortOf.at 16 rfl) (⟨by first | rw [if_pos h3] | rw [if_neg h3, if_pos h11] | rw [if_neg h3, if_neg h11, if_pos h19] | rw [if_neg h3, if_neg h11, if_neg h19], rfl⟩)
      · refine a_iconst (kX3_sortOf.at 13 rfl) rfl ?_
        refine a_goto (tgt := 27) (kX3_sortOf.at 14 rfl) (by decide) ?_
        exact a_iretE (kX3_sortOf.at 16 rfl) (⟨by first | rw [if_pos h3] | rw [if_neg h3, if_pos h11] | rw [if_neg h3, if_neg h11, if_pos h19] | rw [if_neg h3, if_neg h11, if_neg h19], rfl⟩)
    · refine a_iconst (kX3_sortOf.at 8 rfl) rfl ?_
      exact a_iretE (kX3_sortOf.at 9 rfl) (⟨by first | rw [if_pos h3] | rw [if_neg h3, if_pos h11] | rw [if_neg h3, if_neg h11, if_pos h19] | rw [if_neg h3, if_neg h11, if_neg h19], rfl⟩)
  · refine a_iconst (kX3_sortOf.at 3 rfl) rfl ?_
    exact a_iretE (kX3_sortOf.at 4 rfl) (⟨by first | rw [if_pos h3] | rw [if_neg h3, if_pos h11] | rw [if_neg h3, if_neg h11, if_pos h19] | rw [if_neg h3, if_neg h11, if_neg h19], rfl⟩)
noncomputable def vAt (k b : Int) : Int := if k = 0 then (if b = 115 then 0 else if b = 116 then 1 else if b = 110 then 2 else -1) else if k = 1 then (if 48 ≤ b ∧ b ≤ 55 then b - 48 else -1) else if k = 2 then (if 48 ≤ b ∧ b ≤ 57 then b - 48 else -1) else if b = 59 then 0 else -1
theorem k_valueAt (G : GT) (M : Mem) (i : Int) (hi : 0 ≤ i ∧ i < 31) : AM G yX3_valueAt cX3_valueAt 3 (some .int) 1 M [vR 1, vI i] (qI (vAt (i % 4) (M 14 i)) M) := by
  refine AM.mk (own := RX3) rfl sv_X3_valueAt.1.2.2.2.2.2 (Nat.le_of_ble_eq_true rfl) rfl ?_
  refine a_aload_n (kX3_valueAt.at 0 rfl) 0 rfl ?_
  refine a_getR (kX3_valueAt.at 1 rfl) fg_X3_9 ir_1_0 ?_
  refine a_iload_n (kX3_valueAt.at 2 rfl) 1 rfl ?_
  refine a_iald (x := M 14 i) (kX3_valueAt.at 3 rfl) (ia_14) (by omega) (rfl) ?_
  refine a_istore_n (ls' := [(0, vR 1), (1, vI i), (2, vI (M 14 i))]) (kX3_valueAt.at 4 rfl) (by decide) rfl ?_
  refine a_iload_n (kX3_valueAt.at 5 rfl) 1 rfl ?_
  refine a_iconst (kX3_valueAt.at 6 rfl) rfl ?_
  refine a_irem (kX3_valueAt.at 7 rfl) (by omega) (by omega) ?_
  rcases sw0_2 (x := i % 4) with h10_0 | h10_1 | h10_2 | h10_d
  · refine a_tabIn (off := 26) (tgt := 36) (kX3_valueAt.at 8 rfl) (by omega) (by omega) (by rw [h10_0]; rfl) (by decide) ?_
    refine a_iload_n (kX3_valueAt.at 9 rfl) 2 rfl ?_
    refine AW.callS (as := [vI (M 14 i)]) (st := []) (kX3_valueAt.at 10 rfl) ml_X3_42 ss_X3_sortOf ⟨Nat.le_of_ble_eq_true rfl, Nat.le_of_ble_eq_true rfl⟩ ⟨Nat.le_refl _, Nat.le_refl _⟩ rfl rfl (Nat.le_of_ble_eq_true rfl) (k_sortOf G M (M 14 i)) (kIE ?_)
    exact a_iretE (kX3_valueAt.at 11 rfl) (⟨by unfold vAt; first | rw [if_pos h10_0] | (rw [if_neg (by omega), if_pos h10_1]; first | rw [if_pos (by omega)] | rw [if_neg (by omega)]) | (rw [if_neg (by omega), if_neg (by omega), if_pos h10_2]; first | rw [if_pos (by omega)] | rw [if_neg (by omega)]) | (rw [if_neg (by omega), if_neg (by omega), if_neg (by omega)]; first | rw [if_pos (by omega)] | rw [if_neg (by omega)]), rfl⟩)
  · refine a_tabIn (off := 31) (tgt := 41) (kX3_valueAt.at 8 rfl) (by omega) (by omega) (by rw [h10_1]; rfl) (by decide) ?_
    refine a_iload_n (kX3_valueAt.at 12 rfl) 2 rfl ?_
    refine a_bipush (kX3_valueAt.at 13 rfl) rfl rfl ?_
    refine a_icmplt (tgt := 60) (kX3_valueAt.at 14 rfl) (by decide) (fun h44 => ?_) (fun h44 => ?_)
    · refine a_iconst (kX3_valueAt.at 22 rfl) rfl ?_
      exact a_iretE (kX3_valueAt.at 23 rfl) (⟨by unfold vAt; first | rw [if_pos h10_0] | (rw [if_neg (by omega), if_pos h10_1]; first | rw [if_pos (by omega)] | rw [if_neg (by omega)]) | (rw [if_neg (by omega), if_neg (by omega), if_pos h10_2]; first | rw [if_pos (by omega)] | rw [if_neg (by omega)]) | (rw [if_neg (by omega), if_neg (by omega), if_neg (by omega)]; first | rw [if_pos (by omega)] | rw [if_neg (by omega)]), rfl⟩)
    · refine a_iload_n (kX3_valueAt.at 15 rfl) 2 rfl ?_
      refine a_bipush (kX3_valueAt.at 16 rfl) rfl rfl ?_
      refine a_icmpgt (tgt := 60) (kX3_valueAt.at 17 rfl) (by decide) (fun h50 => ?_) (fun h50 => ?_)
      · refine a_iconst (kX3_valueAt.at 22 rfl) rfl ?_
        exact a_iretE (kX3_valueAt.at 23 rfl) (⟨by unfold vAt; first | rw [if_pos h10_0] | (rw [if_neg (by omega), if_pos h10_1]; first | rw [if_pos (by omega)] | rw [if_neg (by omega)]) | (rw [if_neg (by omega), if_neg (by omega), if_pos h10_2]; first | rw [if_pos (by omega)] | rw [if_neg (by omega)]) | (rw [if_neg (by omega), if_neg (by omega), if_neg (by omega)]; first | rw [if_pos (by omega)] | rw [if_neg (by omega)]), rfl⟩)
      · refine a_iload_n (kX3_valueAt.at 18 rfl) 2 rfl ?_
        refine a_bipush (kX3_valueAt.at 19 rfl) rfl rfl ?_
        refine a_isub (kX3_valueAt.at 20 rfl) (inr (by omega)) ?_
        refine a_goto (tgt := 61) (kX3_valueAt.at 21 rfl) (by decide) ?_
        exact a_iretE (kX3_valueAt.at 23 rfl) (⟨by unfold vAt; first | rw [if_pos h10_0] | (rw [if_neg (by omega), if_pos h10_1]; first | rw [if_pos (by omega)] | rw [if_neg (by omega)]) | (rw [if_neg (by omega), if_neg (by omega), if_pos h10_2]; first | rw [if_pos (by omega)] | rw [if_neg (by omega)]) | (rw [if_neg (by omega), if_neg (by omega), if_neg (by omega)]; first | rw [if_pos (by omega)] | rw [if_neg (by omega)]), rfl⟩)
  · refine a_tabIn (off := 52) (tgt := 62) (kX3_valueAt.at 8 rfl) (by omega) (by omega) (by rw [h10_2]; rfl) (by decide) ?_
    refine a_iload_n (kX3_valueAt.at 24 rfl) 2 rfl ?_
    refine a_bipush (kX3_valueAt.at 25 rfl) rfl rfl ?_
    refine a_icmplt (tgt := 81) (kX3_valueAt.at 26 rfl) (by decide) (fun h65 => ?_) (fun h65 => ?_)
    · refine a_iconst (kX3_valueAt.at 34 rfl) rfl ?_
      exact a_iretE (kX3_valueAt.at 35 rfl) (⟨by unfold vAt; first | rw [if_pos h10_0] | (rw [if_neg (by omega), if_pos h10_1]; first | rw [if_pos (by omega)] | rw [if_neg (by omega)]) | (rw [if_neg (by omega), if_neg (by omega), if_pos h10_2]; first | rw [if_pos (by omega)] | rw [if_neg (by omega)]) | (rw [if_neg (by omega), if_neg (by omega), if_neg (by omega)]; first | rw [if_pos (by omega)] | rw [if_neg (by omega)]), rfl⟩)
    · refine a_iload_n (kX3_valueAt.at 27 rfl) 2 rfl ?_
      refine a_bipush (kX3_valueAt.at 28 rfl) rfl rfl ?_
      refine a_icmpgt (tgt := 81) (kX3_valueAt.at 29 rfl) (by decide) (fun h71 => ?_) (fun h71 => ?_)
      · refine a_iconst (kX3_valueAt.at 34 rfl) rfl ?_
        exact a_iretE (kX3_valueAt.at 35 rfl) (⟨by unfold vAt; first | rw [if_pos h10_0] | (rw [if_neg (by omega), if_pos h10_1]; first | rw [if_pos (by omega)] | rw [if_neg (by omega)]) | (rw [if_neg (by omega), if_neg (by omega), if_pos h10_2]; first | rw [if_pos (by omega)] | rw [if_neg (by omega)]) | (rw [if_neg (by omega), if_neg (by omega), if_neg (by omega)]; first | rw [if_pos (by omega)] | rw [if_neg (by omega)]), rfl⟩)
      · refine a_iload_n (kX3_valueAt.at 30 rfl) 2 rfl ?_
        refine a_bipush (kX3_valueAt.at 31 rfl) rfl rfl ?_
        refine a_isub (kX3_valueAt.at 32 rfl) (inr (by omega)) ?_
        refine a_goto (tgt := 82) (kX3_valueAt.at 33 rfl) (by decide) ?_
        exact a_iretE (kX3_valueAt.at 35 rfl) (⟨by unfold vAt; first | rw [if_pos h10_0] | (rw [if_neg (by omega), if_pos h10_1]; first | rw [if_pos (by omega)] | rw [if_neg (by omega)]) | (rw [if_neg (by omega), if_neg (by omega), if_pos h10_2]; first | rw [if_pos (by omega)] | rw [if_neg (by omega)]) | (rw [if_neg (by omega), if_neg (by omega), if_neg (by omega)]; first | rw [if_pos (by omega)] | rw [if_neg (by omega)]), rfl⟩)
  · refine a_tabOut (tgt := 83) (kX3_valueAt.at 8 rfl) (by omega) (by decide) ?_
    refine a_iload_n (kX3_valueAt.at 36 rfl) 2 rfl ?_
    refine a_bipush (kX3_valueAt.at 37 rfl) rfl rfl ?_
    refine a_icmpne (tgt := 93) (kX3_valueAt.at 38 rfl) (by decide) (fun h86 => ?_) (fun h86 => ?_)
    · refine a_iconst (kX3_valueAt.at 41 rfl) rfl ?_
      exact a_iretE (kX3_valueAt.at 42 rfl) (⟨by unfold vAt; first | rw [if_pos h10_0] | (rw [if_neg (by omega), if_pos h10_1]; first | rw [if_pos (by omega)] | rw [if_neg (by omega)]) | (rw [if_neg (by omega), if_neg (by omega), if_pos h10_2]; first | rw [if_pos (by omega)] | rw [if_neg (by omega)]) | (rw [if_neg (by omega), if_neg (by omega), if_neg (by omega)]; first | rw [if_pos (by omega)] | rw [if_neg (by omega)]), rfl⟩)
    · refine a_iconst (kX3_valueAt.at 39 rfl) rfl ?_
      refine a_goto (tgt := 94) (kX3_valueAt.at 40 rfl) (by decide) ?_
      exact a_iretE (kX3_valueAt.at 42 rfl) (⟨by unfold vAt; first | rw [if_pos h10_0] | (rw [if_neg (by omega), if_pos h10_1]; first | rw [if_pos (by omega)] | rw [if_neg (by omega)]) | (rw [if_neg (by omega), if_neg (by omega), if_pos h10_2]; first | rw [if_pos (by omega)] | rw [if_neg (by omega)]) | (rw [if_neg (by omega), if_neg (by omega), if_neg (by omega)]; first | rw [if_pos (by omega)] | rw [if_neg (by omega)]), rfl⟩)
theorem vAt_r {k b : Int} : -1 ≤ vAt k b ∧ vAt k b ≤ 9 := by
  unfold vAt
  (repeat' split) <;> omega
theorem isTaken_iff {K : Mem} {h : Int} (hp : 0 ≤ K 44 7) : (isTaken K h = 0 ↔ ∀ k, 0 ≤ k → k < K 44 7 → K 50 (3 * k + 2) ≠ h) := by
  have key : (isTaken K h = 0 ∧ ∀ k, 0 ≤ k → k < K 44 7 → K 50 (3 * k + 2) ≠ h) ∨ (isTaken K h = 1 ∧ ∃ k, 0 ≤ k ∧ k < K 44 7 ∧ K 50 (3 * k + 2) = h) := by
    unfold isTaken
    refine forR_inv (lo := 0) (hi := K 44 7) (fun j x => (x = 0 ∧ ∀ k, 0 ≤ k → k < j → K 50 (3 * k + 2) ≠ h) ∨ (x = 1 ∧ ∃ k, 0 ≤ k ∧ k < j ∧ K 50 (3 * k + 2) = h)) hp (Or.inl ⟨rfl, fun i a b => by omega⟩) (fun j x a b hh => ?_)
    unfold isTakenS
    rcases hh with hh | hh
    · by_cases e : K 50 (3 * j + 2) = h
      · rw [if_pos (Or.inr e)]
        exact Or.inr ⟨rfl, j, a, by omega, e⟩
      · rw [if_neg (fun z => z.elim (fun z => z hh.1) e)]
        exact Or.inl ⟨rfl, fun i c d => if z : i = j then (by rw [z]; exact e) else hh.2 i c (by omega)⟩
    · obtain ⟨h1, i, c, d, e⟩ := hh
      rw [if_pos (Or.inl (by omega))]
      exact Or.inr ⟨rfl, i, c, by omega, e⟩
  rcases key with hh | hh
  · exact ⟨fun _ => hh.2, fun _ => hh.1⟩
  · obtain ⟨h1, i, c, d, e⟩ := hh
    exact ⟨fun z => by omega, fun z => absurd e (z i c d)⟩
/-- while parsing: what is read so far, and the houses taken -/
noncomputable def PI (N K : Mem) (i tk : Int) : Prop := (∀ p, 0 ≤ p → 4 * p < i → N 15 p = K 50 (3 * p)) ∧ (∀ p, 0 ≤ p → 4 * p + 1 < i → N 16 p = K 50 (3 * p + 1)) ∧ (∀ p, 0 ≤ p → 4 * p + 2 < i → N 17 p = K 50 (3 * p + 2)) ∧ (0 ≤ tk ∧ tk < 1024) ∧ ∀ v, 0 ≤ v → v ≤ 9 → (isIn tk v = true ↔ ∃ k, 0 ≤ k ∧ 4 * k + 2 < i ∧ K 50 (3 * k + 2) = v)
theorem by_v {K : Mem} {i tk b : Int} {N : Mem} (h : PI N K i tk) (hi : 0 ≤ i ∧ i < 31) (hp : K 44 7 = (i + 1) / 4) : ((vAt (i % 4) b = -1 ∨ (i % 4 = 2 ∧ isIn tk (vAt (i % 4) b) = true)) → byteOf K (i % 4) b = -9) ∧ (¬ vAt (i % 4) b = -1 → ¬ (i % 4 = 2 ∧ isIn tk (vAt (i % 4) b) = true) → byteOf K (i % 4) b = vAt (i % 4) b) := by
  have ht := h.2.2.2.2
  have hT := isTaken_iff (K := K) (h := b - 48) (by omega)
  rcases (show i % 4 = 0 ∨ i % 4 = 1 ∨ i % 4 = 2 ∨ i % 4 = 3 by omega) with e | e | e | e
  · rw [e]
    unfold byteOf vAt
    simp only [if_true]
    constructor
    · intro z
      (repeat' split) <;> first | rfl | (exfalso; simp_all; done) | (exfalso; omega)
    · intro z _
      revert z
      (repeat' split) <;> intro z <;> first | rfl | omega
  · rw [e]
    unfold byteOf vAt figureOf
    constructor
    · intro z
      simp only [show ¬ ((1 : Int) = 0) by omega, if_false, if_true, show ¬ ((1 : Int) = 2) by omega, false_and, or_false] at z ⊢
      split at z
      · omega
      · rw [if_neg (by omega)]
    · intro z _
      simp only [show ¬ ((1 : Int) = 0) by omega, if_false, if_true] at z ⊢
      split at z
      · rw [if_pos (by omega), if_pos (by omega)]
      · omega
  · rw [e]
    unfold byteOf vAt figureOf
    simp only [show ¬ ((2 : Int) = 0) by omega, show ¬ ((2 : Int) = 1) by omega, if_false, if_true, true_and]
    by_cases hb : 48 ≤ b ∧ b ≤ 57
    · have hv := ht (b - 48) (by omega) (by omega)
      rw [if_pos hb, if_pos (show 48 ≤ b ∧ b ≤ 48 + 9 by omega)]
      constructor
      · intro z
        rcases z with z | z
        · omega
        · obtain ⟨k, c, d, e2⟩ := hv.mp z
          rw [if_neg (fun y => (hT.mp y) k c (by omega) e2)]
      · intro _ z
        rw [if_pos (hT.mpr (fun k c d e2 => z (hv.mpr ⟨k, c, by omega, e2⟩)))]
    · rw [if_neg hb, if_neg (show ¬ (48 ≤ b ∧ b ≤ 48 + 9) by omega)]
      constructor
      · intro _
        split <;> rfl
      · intro z
        exact absurd rfl z
  · rw [e]
    unfold byteOf vAt
    constructor
    · intro z
      simp only [show ¬ ((3 : Int) = 0) by omega, show ¬ ((3 : Int) = 1) by omega, show ¬ ((3 : Int) = 2) by omega, if_false, false_and, or_false] at z ⊢
      split at z
      · omega
      · rw [if_neg (by assumption)]
    · intro z _
      simp only [show ¬ ((3 : Int) = 0) by omega, show ¬ ((3 : Int) = 1) by omega, show ¬ ((3 : Int) = 2) by omega, if_false] at z ⊢
      split at z
      · rename_i hb
        rw [if_pos hb, if_pos hb]
      · omega
