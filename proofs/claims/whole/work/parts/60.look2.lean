/-! ===== houses behind a quarter are distinct ===== -/
theorem SR_pass4 {R N : Mem} {q : Int} (hE : EV R) (hF : Fr R N) (hR : SR N q 0 0) (hq : 0 ≤ q) : SR (pass4 N q) (q + 1) 0 0 := by
  have hG := CG_pass2 hR.vr (hE.Fr hF) hq
  have hp8 := hR.1
  have hR3 : SR (pass3 N q) q 0 (N 44 7) := (SR_comeAll (SR_CG hR hG) (n := N 44 7) (by rw [(Fr_pass2 N q).people]; omega)).1
  have p3 : pass3 N q 44 7 = N 44 7 := (Fr_pass3 N q).people
  by_cases h23 : pass3 N q 44 23 = 0
  · rw [pass4_kn h23]
    exact (SR_knockAll hR3 hq (n := N 44 7) (by omega)).1.next (by omega)
  · rw [pass4_hol h23]
    exact hR3.next (by omega)
theorem livesQ_DT {R : Mem} (h : IR R) (hE : EV R) {n : Int} (hn : 0 ≤ n) : (SR (livesQ R n) n 0 0 ∧ Fr R (livesQ R n)) ∧ ∀ q a b, 0 ≤ q → q < n → 0 ≤ a → a < R 44 7 → 0 ≤ b → b < R 44 7 → livesQ R n 56 (8 * q + a) = livesQ R n 56 (8 * q + b) → a = b := by
  refine forR_inv (lo := 0) (hi := n) (f := fun q N => passes N q) (a := lives0 R) (fun n (N : Mem) => (SR N n 0 0 ∧ Fr R N) ∧ ∀ q a b, 0 ≤ q → q < n → 0 ≤ a → a < R 44 7 → 0 ≤ b → b < R 44 7 → N 56 (8 * q + a) = N 56 (8 * q + b) → a = b) hn ⟨⟨SR_lives0 h, Fr_lives0 R⟩, fun q a b c d => by omega⟩ (fun i N a b hN => ?_)
  obtain ⟨⟨hR, hF⟩, hD⟩ := hN
  have hR4 := SR_pass4 hE hF hR a
  have hp8 := hR.1
  have e7 := hF.people
  have p4 : pass4 N i 44 7 = N 44 7 := (Fr_pass4 N i).people
  have hb := passes_by N i hp8.1
  refine ⟨⟨hR4.of hb.1, hF.trans (Fr_passes N i)⟩, fun q x y c d e f g k z => ?_⟩
  have z1 := hb.2 0 (8 * q + x) (by omega)
  have z2 := hb.2 0 (8 * q + y) (by omega)
  rw [show passes N i 56 (8 * q + x) = _ from z1, show passes N i 56 (8 * q + y) = _ from z2] at z
  by_cases eq : q = i
  · subst eq
    rw [if_pos (by omega), if_pos (by omega), show 8 * q + x - 8 * q = x by omega, show 8 * q + y - 8 * q = y by omega] at z
    exact hR4.2.2.1 x y e (by omega) g (by omega) z
  · rw [if_neg (by omega), if_neg (by omega)] at z
    exact hD q x y c (by omega) e f g k z
theorem lives_DT {R : Mem} (h : IR R) (hE : EV R) : (∀ q a b, 0 ≤ q → q < 16 → 0 ≤ a → a < R 44 7 → 0 ≤ b → b < R 44 7 → lives R 56 (8 * q + a) = lives R 56 (8 * q + b) → a = b) ∧ ∀ p, 0 ≤ p → p < R 44 7 → lives R 57 (8 * 15 + p) = lives R 53 p := by
  rw [lives_eq]
  refine ⟨(livesQ_DT h hE (n := 16) (by omega)).2, fun p a b => ?_⟩
  have hk := (livesQ_DT h hE (n := 15) (by omega)).1
  have e16 : livesQ R 16 = passes (livesQ R 15) 15 := livesQ_s R (q := 15) (by omega)
  have e7 := hk.2.people
  have hb := passes_by (livesQ R 15) 15 hk.1.1.1
  have z := hb.2 1 (8 * 15 + p) (by omega)
  rw [e16, show passes (livesQ R 15) 15 57 (8 * 15 + p) = _ from z, if_pos (by omega), show 8 * 15 + p - 8 * 15 = p by omega, hb.1 53 (by omega)]
noncomputable def CI (K : Mem) : Prop := IR (reads K).1 ∧ EV (reads K).1
theorem CI_of {M K : Mem} (hC : Cp M K) (h : MB K) : CI K := ⟨reads_IR K h.1.1, (EV_of hC.1 h.1.2.2 h.2.1.2).Ft (Ft_reads K h.1.1.1)⟩
theorem houseOf_at {K : Mem} {q x k : Int} (hp : 0 ≤ K 44 7) (hd : ∀ a b, 0 ≤ a → a < K 44 7 → 0 ≤ b → b < K 44 7 → K 56 (8 * q + a) = K 56 (8 * q + b) → a = b) (hk : 0 ≤ k ∧ k < K 44 7) (h : K 56 (8 * q + k) = x) : houseOf K q x = k := by
  have key : (houseOf K q x = -1 ∧ ∀ j, 0 ≤ j → j < K 44 7 → K 56 (8 * q + j) ≠ x) ∨ ((0 ≤ houseOf K q x ∧ houseOf K q x < K 44 7) ∧ K 56 (8 * q + houseOf K q x) = x) := by
    unfold houseOf
    refine forR_inv (lo := 0) (hi := K 44 7) (fun i w => (w = -1 ∧ ∀ k, 0 ≤ k → k < i → K 56 (8 * q + k) ≠ x) ∨ ((0 ≤ w ∧ w < i) ∧ K 56 (8 * q + w) = x)) hp (Or.inl ⟨rfl, fun k a b => by omega⟩) (fun k w a b hw => ?_)
    by_cases e : K 56 (8 * q + k) = x
    · rw [if_pos e]
      exact Or.inr ⟨by omega, e⟩
    · rw [if_neg e]
      rcases hw with hw | hw
      · exact Or.inl ⟨hw.1, fun j c d => if ej : j = k then (by rw [ej]; exact e) else hw.2 j c (by omega)⟩
      · exact Or.inr ⟨by omega, hw.2⟩
  rcases key with z | z
  · exact absurd h (z.2 k hk.1 hk.2)
  · exact hd _ _ z.1.1 z.1.2 hk.1 hk.2 (by rw [z.2, h])
theorem houseOf_none {K : Mem} {q x : Int} (hp : 0 ≤ K 44 7) : (houseOf K q x = -1 ↔ ∀ j, 0 ≤ j → j < K 44 7 → K 56 (8 * q + j) ≠ x) := by
  have key : (houseOf K q x = -1 ∧ ∀ j, 0 ≤ j → j < K 44 7 → K 56 (8 * q + j) ≠ x) ∨ ((0 ≤ houseOf K q x ∧ houseOf K q x < K 44 7) ∧ K 56 (8 * q + houseOf K q x) = x) := by
    unfold houseOf
    refine forR_inv (lo := 0) (hi := K 44 7) (fun i w => (w = -1 ∧ ∀ k, 0 ≤ k → k < i → K 56 (8 * q + k) ≠ x) ∨ ((0 ≤ w ∧ w < i) ∧ K 56 (8 * q + w) = x)) hp (Or.inl ⟨rfl, fun k a b => by omega⟩) (fun k w a b hw => ?_)
    by_cases e : K 56 (8 * q + k) = x
    · rw [if_pos e]
      exact Or.inr ⟨by omega, e⟩
    · rw [if_neg e]
      rcases hw with hw | hw
      · exact Or.inl ⟨hw.1, fun j c d => if ej : j = k then (by rw [ej]; exact e) else hw.2 j c (by omega)⟩
      · exact Or.inr ⟨by omega, hw.2⟩
  rcases key with z | z
  · exact ⟨fun _ => z.2, fun _ => z.1⟩
  · exact ⟨fun y => by omega, fun y => absurd z.2 (y _ z.1.1 z.1.2)⟩
