/-! ===== a course is told by what goes in ===== -/
/-- what goes in is alike -/
noncomputable def InE (M N : Mem) : Prop := (N 44 7 = M 44 7 ∧ N 44 9 = M 44 9 ∧ N 44 11 = M 44 11 ∧ N 44 12 = M 44 12 ∧ (M 44 12 = -1 ∨ (N 44 13 = M 44 13 ∧ (M 44 13 = 3 ∨ N 44 14 = M 44 14)))) ∧ (∀ j, 0 ≤ j → j < 3 * M 44 7 → N 50 j = M 50 j) ∧ (∀ j, 0 ≤ j → j < 3 * M 44 9 → N 51 j = M 51 j)
theorem InE.refl (M : Mem) : InE M M := ⟨⟨rfl, rfl, rfl, rfl, Or.inr ⟨rfl, Or.inr rfl⟩⟩, fun _ _ _ => rfl, fun _ _ _ => rfl⟩
theorem Fr.inE {M N : Mem} (h : Fr M N) : InE M N := ⟨⟨h 44 7 (by omega) (by omega), h 44 9 (by omega) (by omega), h 44 11 (by omega) (by omega), h 44 12 (by omega) (by omega), Or.inr ⟨h 44 13 (by omega) (by omega), Or.inr (h 44 14 (by omega) (by omega))⟩⟩, fun j _ _ => h 50 j (by omega) (by omega), fun j _ _ => h 51 j (by omega) (by omega)⟩
theorem InE.trans {M N K : Mem} (h1 : InE M N) (h2 : InE N K) : InE M K := by
  obtain ⟨⟨a1, a2, a3, a4, a5⟩, a6, a7⟩ := h1
  obtain ⟨⟨b1, b2, b3, b4, b5⟩, b6, b7⟩ := h2
  refine ⟨⟨b1.trans a1, b2.trans a2, b3.trans a3, b4.trans a4, ?_⟩, fun j x y => (b6 j x (by rw [a1]; exact y)).trans (a6 j x y), fun j x y => (b7 j x (by rw [a2]; exact y)).trans (a7 j x y)⟩
  rcases a5 with h | h
  · exact Or.inl h
  · rcases b5 with h3 | h3
    · exact Or.inl (a4.symm.trans h3)
    · refine Or.inr ⟨h3.1.trans h.1, ?_⟩
      rcases h.2 with h4 | h4
      · exact Or.inl h4
      · rcases h3.2 with h5 | h5
        · exact Or.inl (h.1.symm.trans h5)
        · exact Or.inr (h5.trans h4)
theorem InE.symm {M N : Mem} (h : InE M N) : InE N M := by
  obtain ⟨⟨a1, a2, a3, a4, a5⟩, a6, a7⟩ := h
  refine ⟨⟨a1.symm, a2.symm, a3.symm, a4.symm, ?_⟩, fun j x y => (a6 j x (by rw [← a1]; exact y)).symm, fun j x y => (a7 j x (by rw [← a2]; exact y)).symm⟩
  rcases a5 with h | h
  · exact Or.inl (a4.trans h)
  · refine Or.inr ⟨h.1.symm, ?_⟩
    rcases h.2 with h4 | h4
    · exact Or.inl (h.1.trans h4)
    · exact Or.inr h4.symm
/-- the moving parts are alike -/
noncomputable def StE (M N : Mem) : Prop := InE M N ∧ (∀ k, 0 ≤ k → k < M 44 7 → N 52 k = M 52 k ∧ N 53 k = M 53 k ∧ N 54 k = M 54 k ∧ N 55 k = M 55 k) ∧ (N 44 24 = M 44 24 ∧ N 44 25 = M 44 25 ∧ N 44 26 = M 44 26 ∧ N 44 27 = M 44 27)
theorem StE.h {M N : Mem} (h : StE M N) {k : Int} (hk : 0 ≤ k ∧ k < M 44 7) : N 52 k = M 52 k ∧ N 53 k = M 53 k ∧ N 54 k = M 54 k ∧ N 55 k = M 55 k := h.2.1 k hk.1 hk.2
theorem whoIn_E {M N : Mem} (h : StE M N) (x : Int) : whoIn N x = whoIn M x := by
  unfold whoIn
  rw [h.1.1.1]
  exact forR_cong fun k w a b => by rw [(h.h ⟨a, b⟩).1]
theorem agree_E {M N : Mem} (h : StE M N) {a b : Int} (ha : 0 ≤ a ∧ a < M 44 7) (hb : 0 ≤ b ∧ b < M 44 7) : agree N a b = agree M a b := by
  unfold agree
  rw [h.1.2.1 (3 * a) (by omega) (by omega), h.1.2.1 (3 * b) (by omega) (by omega), (h.h ha).2.1, (h.h hb).2.1]
theorem isOther_E {M N : Mem} (h : StE M N) {k w : Int} (hk : 0 ≤ k ∧ k < M 44 7) (hw : -1 ≤ w ∧ w < M 44 7) : isOther N k w = isOther M k w := by
  unfold isOther
  by_cases e : w = -1
  · simp [e]
  · rw [h.1.2.1 (3 * w) (by omega) (by omega), (h.h hk).2.1, (h.h (k := w) (by omega)).2.1]
theorem StE.upk {M N : Mem} (h : StE M N) {c : Nat} (hc : 52 ≤ c ∧ c ≤ 55) (k v : Int) : StE (upm M c k v) (upm N c k v) := by
  have n44 : ∀ j, upm N c k v 44 j = N 44 j := fun j => rd_ne (by omega)
  have m44 : ∀ j, upm M c k v 44 j = M 44 j := fun j => rd_ne (by omega)
  refine ⟨⟨?_, ?_, ?_⟩, ?_, ?_⟩
  · simp only [n44, m44]; exact h.1.1
  · rw [m44, upm_ne (show (50 : Nat) ≠ c by omega), upm_ne (show (50 : Nat) ≠ c by omega)]; exact h.1.2.1
  · rw [m44, upm_ne (show (51 : Nat) ≠ c by omega), upm_ne (show (51 : Nat) ≠ c by omega)]; exact h.1.2.2
  · intro j a b
    rw [m44] at b
    have := h.2.1 j a b
    rcases (show c = 52 ∨ c = 53 ∨ c = 54 ∨ c = 55 by omega) with rfl | rfl | rfl | rfl
    all_goals
      simp only [upm_same, upm_ne (show (52 : Nat) ≠ 53 by decide), upm_ne (show (52 : Nat) ≠ 54 by decide), upm_ne (show (52 : Nat) ≠ 55 by decide), upm_ne (show (53 : Nat) ≠ 52 by decide), upm_ne (show (53 : Nat) ≠ 54 by decide), upm_ne (show (53 : Nat) ≠ 55 by decide), upm_ne (show (54 : Nat) ≠ 52 by decide), upm_ne (show (54 : Nat) ≠ 53 by decide), upm_ne (show (54 : Nat) ≠ 55 by decide), upm_ne (show (55 : Nat) ≠ 52 by decide), upm_ne (show (55 : Nat) ≠ 53 by decide), upm_ne (show (55 : Nat) ≠ 54 by decide)]
      unfold ups
      by_cases e : j = k
      · simp [e, e ▸ this]
      · simp [e, this]
  · simp only [n44, m44]; exact h.2.2
theorem StE.upf {M N : Mem} (h : StE M N) {j : Int} (hj : 23 ≤ j ∧ j ≤ 27) (v : Int) : StE (upm M 44 j v) (upm N 44 j v) := by
  have n44 : ∀ i, i < 23 → upm N 44 j v 44 i = N 44 i := fun i hi => rd_ni (by omega)
  have m44 : ∀ i, i < 23 → upm M 44 j v 44 i = M 44 i := fun i hi => rd_ni (by omega)
  refine ⟨⟨?_, fun i x y => h.1.2.1 i x (by rw [← m44 7 (by omega)]; exact y), fun i x y => h.1.2.2 i x (by rw [← m44 9 (by omega)]; exact y)⟩, ?_, ?_⟩
  · rw [n44 7 (by omega), n44 9 (by omega), n44 11 (by omega), n44 12 (by omega), n44 13 (by omega), n44 14 (by omega), m44 7 (by omega), m44 9 (by omega), m44 11 (by omega), m44 12 (by omega), m44 13 (by omega), m44 14 (by omega)]
    exact h.1.1
  · intro k a b
    rw [m44 7 (by omega)] at b
    exact h.2.1 k a b
  · simp only [upm_same]
    unfold ups
    have := h.2.2
    refine ⟨?_, ?_, ?_, ?_⟩ <;> split <;> first | rfl | omega
theorem happens_E {M N : Mem} (h : StE M N) (kind k : Int) : StE (happens M kind k) (happens N kind k) := by
  unfold happens
  rw [h.1.1.1]
  split
  · exact h.upf (by omega) 1
  · split
    · rename_i hk
      rw [(h.h (k := k) (by omega)).2.1]
      exact h.upk (by omega) k _
    · exact h
theorem comesTo_E {M N : Mem} (h : StE M N) {k : Int} (hk : 0 ≤ k ∧ k < M 44 7) : comesTo N k = comesTo M k := by
  have hp : 0 ≤ M 44 7 := by omega
  unfold comesTo
  rw [(h.h hk).1, whoIn_E h, whoIn_E h, isOther_E h hk (whoIn_r M _ hp), isOther_E h hk (whoIn_r M _ hp)]
theorem comesTo_r (M : Mem) (k : Int) (hp : 0 ≤ M 44 7) : -1 ≤ comesTo M k ∧ comesTo M k < M 44 7 := by
  have w1 := whoIn_r M (M 52 k - 1) hp
  have w2 := whoIn_r M (M 52 k + 1) hp
  unfold comesTo
  split
  · exact w1
  · split
    · exact w2
    · omega
theorem comes_E {M N : Mem} (h : StE M N) {k : Int} (hk : 0 ≤ k ∧ k < M 44 7) : StE (comes M k) (comes N k) := by
  have hp : 0 ≤ M 44 7 := by omega
  have hr := comesTo_r M k hp
  unfold comes
  rw [comesTo_E h hk]
  split
  · exact h
  · unfold comesX
    rw [(h.h hk).2.1, (h.h (k := comesTo M k) (by omega)).2.1, (h.h hk).2.2.2]
    exact (h.upk (c := 53) (by omega) k _).upk (c := 55) (by omega) k _
theorem isDead_E {M N : Mem} (h : StE M N) {k : Int} (hk : 0 ≤ k ∧ k < M 44 7) (x : Int) : isDead N k x = isDead M k x := by
  have hp : 0 ≤ M 44 7 := by omega
  unfold isDead
  rw [whoIn_E h, whoIn_E h]
  have w1 := whoIn_r M (x - 1) hp
  have w2 := whoIn_r M (x + 1) hp
  by_cases e1 : whoIn M (x - 1) = -1
  · by_cases e2 : whoIn M (x + 1) = -1
    · simp [e1, e2]
    · rw [agree_E h hk (b := whoIn M (x + 1)) (by omega)]
      simp [e1]
  · rw [agree_E h hk (b := whoIn M (x - 1)) (by omega)]
    by_cases e2 : whoIn M (x + 1) = -1
    · simp [e2]
    · rw [agree_E h hk (b := whoIn M (x + 1)) (by omega)]
theorem best_E {M N : Mem} (h : StE M N) {k : Int} (hk : 0 ≤ k ∧ k < M 44 7) : best N k = best M k := by
  unfold best
  refine forR_cong fun x b _ _ => ?_
  unfold knBest
  rw [whoIn_E h, isDead_E h hk, (h.h hk).1]
theorem knocks_E {M N : Mem} (h : StE M N) (q : Int) {k : Int} (hk : 0 ≤ k ∧ k < M 44 7) : StE (knocks M q k) (knocks N q k) := by
  unfold knocks
  rw [(h.h hk).1, isDead_E h hk, best_E h hk]
  split
  · split
    · rw [h.2.2.1]
      exact h.upf (by omega) _
    · unfold knocksX
      rw [(h.h hk).1, (h.h hk).2.2.1, h.2.2.2.1, h.2.2.2.2.1, h.2.2.2.2.2]
      exact ((((h.upf (j := 25) (by omega) _).upk (c := 52) (by omega) k _).upk (c := 54) (by omega) k _).upf (j := 27) (by omega) _).upf (j := 26) (by omega) _
  · exact h
