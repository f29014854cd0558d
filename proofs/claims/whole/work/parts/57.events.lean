/-! ===== the class: event, back ===== -/
theorem MB_keeps {K : Mem} (h : MB K) (a b c : Int) (h7 : K 44 9 ≤ 7) : MB (keeps K a b c) := by
  refine ⟨⟨h.1.1, h.1.2.1, (show 0 ≤ K 44 9 + 1 ∧ K 44 9 + 1 ≤ 8 by have := h.1.2.2; omega)⟩, h.2⟩
theorem MB_back {K : Mem} (h : MB K) {n : Int} (hn : 0 ≤ n ∧ n ≤ 8) : MB (upm K 44 9 n) := ⟨⟨h.1.1, h.1.2.1, hn⟩, h.2⟩
noncomputable def apE (M : Mem) (a b c : Int) : Mem := upm (upm (upm (upm M 18 (M 2 3) a) 19 (M 2 3) b) 20 (M 2 3) c) 2 3 (M 2 3 + 1)
theorem CTe_keeps {M K : Mem} (h : CTe M K) {a b c : Int} (ha : 0 ≤ a ∧ a ≤ 3) (hb : 0 ≤ b ∧ b ≤ 15) (hc : 0 ≤ c ∧ c ≤ 7) (h7 : K 44 9 ≤ 7) : CTe (apE M a b c) (keeps K a b c) := by
  obtain ⟨h1, ⟨h3, h4⟩, h5⟩ := h
  have z := h5.1
  refine ⟨h1, ⟨(show M 2 3 + 1 = K 44 9 + 1 by omega), fun i d e => ?_⟩, (show 0 ≤ M 2 3 + 1 ∧ M 2 3 + 1 ≤ 8 by omega), fun i d e => ?_⟩
  · have e' : i < K 44 9 + 1 := e
    show ups (M 18) (M 2 3) a i = ups (ups (ups (K 51) (3 * K 44 9) a) (3 * K 44 9 + 1) b) (3 * K 44 9 + 2) c (3 * i) ∧ ups (M 19) (M 2 3) b i = ups (ups (ups (K 51) (3 * K 44 9) a) (3 * K 44 9 + 1) b) (3 * K 44 9 + 2) c (3 * i + 1) ∧ ups (M 20) (M 2 3) c i = ups (ups (ups (K 51) (3 * K 44 9) a) (3 * K 44 9 + 1) b) (3 * K 44 9 + 2) c (3 * i + 2)
    unfold ups
    by_cases ei : i = M 2 3
    · rw [if_pos ei, if_pos ei, if_pos ei, if_neg (by omega), if_neg (by omega), if_pos (by omega), if_neg (by omega), if_pos (by omega), if_pos (by omega)]
      exact ⟨rfl, rfl, rfl⟩
    · rw [if_neg ei, if_neg ei, if_neg ei, if_neg (by omega), if_neg (by omega), if_neg (by omega), if_neg (by omega), if_neg (by omega), if_neg (by omega), if_neg (by omega), if_neg (by omega), if_neg (by omega)]
      exact h4 i d (by omega)
  · have e' : i < M 2 3 + 1 := e
    show (0 ≤ ups (M 18) (M 2 3) a i ∧ ups (M 18) (M 2 3) a i ≤ 3) ∧ (0 ≤ ups (M 19) (M 2 3) b i ∧ ups (M 19) (M 2 3) b i ≤ 15) ∧ (0 ≤ ups (M 20) (M 2 3) c i ∧ ups (M 20) (M 2 3) c i ≤ 7)
    unfold ups
    by_cases ei : i = M 2 3
    · rw [if_pos ei, if_pos ei, if_pos ei]
      exact ⟨ha, hb, hc⟩
    · rw [if_neg ei, if_neg ei, if_neg ei]
      exact h5.2 i d (by omega)
