/-! ===== a course is told by what goes in: sixteen quarters ===== -/
theorem forR_rel {α β : Type} {lo hi : Int} {f : Int → α → α} {g : Int → β → β} {a : α} {b : β} (R : Int → α → β → Prop) (h : lo ≤ hi) (h0 : R lo a b) (hs : ∀ k x y, lo ≤ k → k < hi → R k x y → R (k + 1) (f k x) (g k y)) : R hi (forR lo hi f a) (forR lo hi g b) := by
  have key : ∀ n : Nat, ∀ k, lo ≤ k → k ≤ hi → (k - lo).toNat = n → R k (forR lo k f a) (forR lo k g b) := by
    intro n
    induction n with
    | zero =>
      intro k h1 h2 h3
      obtain rfl : k = lo := by omega
      rw [forR_nil (Int.le_refl _), forR_nil (Int.le_refl _)]
      exact h0
    | succ n ih =>
      intro k h1 h2 h3
      have e : k = (k - 1) + 1 := by omega
      rw [e, forR_succ (by omega), forR_succ (by omega)]
      exact hs (k - 1) _ _ (by omega) (by omega) (ih (k - 1) (by omega) (by omega) (by omega))
  exact key _ hi h (Int.le_refl _) rfl
noncomputable def SvE (M N : Mem) : Prop := StE M N ∧ N 44 23 = M 44 23
theorem happens_V {M N : Mem} (h : SvE M N) (kind k : Int) : SvE (happens M kind k) (happens N kind k) := by
  refine ⟨happens_E h.1 kind k, ?_⟩
  unfold happens
  rw [h.1.1.1.1]
  split
  · rfl
  · split
    · exact h.2
    · exact h.2
theorem comes_V {M N : Mem} (h : SvE M N) {k : Int} (hk : 0 ≤ k ∧ k < M 44 7) : SvE (comes M k) (comes N k) := by
  refine ⟨comes_E h.1 hk, ?_⟩
  have e1 : ∀ K : Mem, comes K k 44 23 = K 44 23 := fun K => by
    unfold comes comesX
    split <;> rfl
  rw [e1, e1]
  exact h.2
theorem knocks_V {M N : Mem} (h : SvE M N) (q : Int) {k : Int} (hk : 0 ≤ k ∧ k < M 44 7) : SvE (knocks M q k) (knocks N q k) := by
  refine ⟨knocks_E h.1 q hk, ?_⟩
  have e1 : ∀ K : Mem, knocks K q k 44 23 = K 44 23 := fun K => by
    unfold knocks knocksX
    split
    · split <;> rfl
    · rfl
  rw [e1, e1]
  exact h.2
theorem pass1_E {M N : Mem} (h : StE M N) (q : Int) : SvE (pass1 M q) (pass1 N q) := by
  have h0 : SvE (upm M 44 23 0) (upm N 44 23 0) := ⟨h.upf (by omega) 0, rfl⟩
  unfold pass1
  rw [h.1.1.2.1]
  by_cases hl : 0 ≤ M 44 9
  · refine (forR_rel (fun _ x y => SvE x y ∧ x 44 9 = M 44 9) hl ⟨h0, rfl⟩ (fun k x y a b hxy => ⟨?_, ((Fr_pEv q k x) 44 9 (by omega) (by omega)).trans hxy.2⟩)).1
    have e9 := hxy.2
    unfold pEv
    rw [hxy.1.1.1.2.2 (3 * k) (by omega) (by omega), hxy.1.1.1.2.2 (3 * k + 1) (by omega) (by omega), hxy.1.1.1.2.2 (3 * k + 2) (by omega) (by omega), hxy.1.1.1.1.2.2.1]
    split
    · exact happens_V hxy.1 _ _
    · exact hxy.1
  · rw [forR_nil (by omega), forR_nil (by omega)]; exact h0
theorem happens_hol (M : Mem) (k k' : Int) : happens M 3 k = happens M 3 k' := by unfold happens; rw [if_pos rfl, if_pos rfl]
theorem pass2_E {M N : Mem} (h : StE M N) (q : Int) (hq : 0 ≤ q) : SvE (pass2 M q) (pass2 N q) := by
  have h1 := pass1_E h q
  have hi := h.1.1.2.2.2
  unfold pass2
  rw [hi.1]
  split
  · rename_i e
    rcases hi.2 with h3 | h3
    · omega
    · rw [h3.1]
      rcases h3.2 with h4 | h4
      · rw [h4, happens_hol (pass1 N q) (N 44 14) (M 44 14)]
        exact happens_V h1 _ _
      · rw [h4]
        exact happens_V h1 _ _
  · exact h1
theorem pass3_E {M N : Mem} (h : StE M N) (q : Int) (hq : 0 ≤ q) (hp : 0 ≤ M 44 7) : SvE (pass3 M q) (pass3 N q) := by
  unfold pass3
  rw [h.1.1.1]
  refine (forR_rel (fun _ x y => SvE x y ∧ x 44 7 = M 44 7) hp ⟨pass2_E h q hq, (Fr_pass2 M q).people⟩ (fun k x y a b hxy => ⟨?_, (Fr_pCm k x).people.trans hxy.2⟩)).1
  have e7 := hxy.2
  unfold pCm
  rw [hxy.1.1.1.2.1 (3 * k) (by omega) (by omega)]
  split
  · exact comes_V hxy.1 (by omega)
  · exact hxy.1
theorem pass4_E {M N : Mem} (h : StE M N) (q : Int) (hq : 0 ≤ q) (hp : 0 ≤ M 44 7) : SvE (pass4 M q) (pass4 N q) := by
  unfold pass4
  rw [h.1.1.1]
  refine (forR_rel (fun _ x y => SvE x y ∧ x 44 7 = M 44 7) hp ⟨pass3_E h q hq hp, (Fr_pass3 M q).people⟩ (fun k x y a b hxy => ⟨?_, (Fr_pKn q k x).people.trans hxy.2⟩)).1
  unfold pKn
  rw [hxy.1.2]
  split
  · exact knocks_V hxy.1 q (by omega)
  · exact hxy.1
/-- all that a course tells is alike -/
noncomputable def OutE (M N : Mem) : Prop := StE M N ∧ ∀ (q k : Int) (d : Nat), 0 ≤ q → q ≤ 15 → 0 ≤ k → k < M 44 7 → d < 4 → N (56 + d) (8 * q + k) = M (56 + d) (8 * q + k)
theorem StE.of {M N K L : Mem} (h : StE M N) (hM : ∀ c : Nat, ¬ (56 ≤ c ∧ c ≤ 59) → K c = M c) (hN : ∀ c : Nat, ¬ (56 ≤ c ∧ c ≤ 59) → L c = N c) : StE K L := by
  have a := hM 44 (by omega)
  have b := hN 44 (by omega)
  refine ⟨⟨by rw [a, b]; exact h.1.1, by rw [hM 50 (by omega), hN 50 (by omega), a]; exact h.1.2.1, by rw [hM 51 (by omega), hN 51 (by omega), a]; exact h.1.2.2⟩, ?_, by rw [a, b]; exact h.2.2⟩
  rw [a, hM 52 (by omega), hM 53 (by omega), hM 54 (by omega), hM 55 (by omega), hN 52 (by omega), hN 53 (by omega), hN 54 (by omega), hN 55 (by omega)]
  exact h.2.1
theorem passes_E {M N : Mem} (h : StE M N) (q : Int) (hq : 0 ≤ q) (hp : 0 ≤ M 44 7 ∧ M 44 7 ≤ 8) : StE (passes M q) (passes N q) := (pass4_E h q hq hp.1).1.of (passes_by M q hp.1).1 (passes_by N q (by rw [h.1.1.1]; exact hp.1)).1
theorem lvI_all (M : Mem) {n : Int} (h0 : 0 ≤ n) : Fr M (forR 0 n lvI M) ∧ ∀ j, 0 ≤ j → j < n → forR 0 n lvI M 52 j = M 50 (3 * j + 2) ∧ forR 0 n lvI M 53 j = M 50 (3 * j + 1) ∧ forR 0 n lvI M 54 j = 0 ∧ forR 0 n lvI M 55 j = 0 := by
  refine forR_inv (lo := 0) (hi := n) (fun i (K : Mem) => Fr M K ∧ ∀ j, 0 ≤ j → j < i → K 52 j = M 50 (3 * j + 2) ∧ K 53 j = M 50 (3 * j + 1) ∧ K 54 j = 0 ∧ K 55 j = 0) h0 ⟨Fr.refl M, fun j a b => by omega⟩ (fun i K a b hK => ⟨hK.1.trans (Fr_lvI i K), fun j c d => ?_⟩)
  have e1 := hK.1 50 (3 * i + 2) (by omega) (by omega)
  have e2 := hK.1 50 (3 * i + 1) (by omega) (by omega)
  show ups (K 52) i (K 50 (3 * i + 2)) j = _ ∧ ups (K 53) i (K 50 (3 * i + 1)) j = _ ∧ ups (K 54) i 0 j = _ ∧ ups (K 55) i 0 j = _
  unfold ups
  by_cases hj : j = i
  · subst hj
    simp [e1, e2]
  · simp only [if_neg hj]
    exact hK.2 j c (by omega)
/-- at the start: houses and views as told -/
theorem lives0_st (M : Mem) (hp : 0 ≤ M 44 7) : ∀ j, 0 ≤ j → j < M 44 7 → lives0 M 52 j = M 50 (3 * j + 2) ∧ lives0 M 53 j = M 50 (3 * j + 1) ∧ lives0 M 54 j = 0 ∧ lives0 M 55 j = 0 := (lvI_all M hp).2
theorem lives0_E {M N : Mem} (h : InE M N) (hp : 0 ≤ M 44 7) : StE (lives0 M) (lives0 N) := by
  have h1 := (Fr_lives0 M).inE
  have h2 := (Fr_lives0 N).inE
  refine ⟨(h1.symm.trans h).trans h2, fun k a b => ?_, rfl, rfl, rfl, rfl⟩
  rw [h1.1.1] at b
  have e1 := lives0_st M hp k a b
  have e2 := lives0_st N (by rw [h.1.1]; exact hp) k a (by rw [h.1.1]; exact b)
  rw [e1.1, e1.2.1, e1.2.2.1, e1.2.2.2, e2.1, e2.2.1, e2.2.2.1, e2.2.2.2, h.2.1 (3 * k + 2) (by omega) (by omega), h.2.1 (3 * k + 1) (by omega) (by omega)]
  exact ⟨rfl, rfl, rfl, rfl⟩
theorem lives_E {M N : Mem} (h : InE M N) (hp : 0 ≤ M 44 7 ∧ M 44 7 ≤ 8) : OutE (lives M) (lives N) := by
  have key : (StE (livesQ M 16) (livesQ N 16) ∧ livesQ M 16 44 7 = M 44 7) ∧ ∀ (q k : Int) (d : Nat), 0 ≤ q → q < 16 → 0 ≤ k → k < M 44 7 → d < 4 → livesQ N 16 (56 + d) (8 * q + k) = livesQ M 16 (56 + d) (8 * q + k) := by
    refine forR_rel (lo := 0) (hi := 16) (fun i x y => (StE x y ∧ x 44 7 = M 44 7) ∧ ∀ (q k : Int) (d : Nat), 0 ≤ q → q < i → 0 ≤ k → k < M 44 7 → d < 4 → y (56 + d) (8 * q + k) = x (56 + d) (8 * q + k)) (by omega) ⟨⟨lives0_E h hp.1, (Fr_lives0 M).people⟩, fun q k d a b => by omega⟩ ?_
    intro i x y h1 h2 hxy
    have hpx : 0 ≤ x 44 7 ∧ x 44 7 ≤ 8 := by rw [hxy.1.2]; exact hp
    refine ⟨⟨passes_E hxy.1.1 i h1 hpx, (Fr_passes x i).people.trans hxy.1.2⟩, fun q k d a b c e f => ?_⟩
    have bx := (passes_by x i hpx.1).2 d (8 * q + k) f
    have hy7 : y 44 7 = x 44 7 := hxy.1.1.1.1.1
    have by_ := (passes_by y i (by rw [hy7]; exact hpx.1)).2 d (8 * q + k) f
    rw [bx, by_, hy7]
    by_cases hc : 8 * i ≤ 8 * q + k ∧ 8 * q + k < 8 * i + x 44 7
    · rw [if_pos hc, if_pos hc]
      have h4 := (pass4_E hxy.1.1 i h1 hpx.1).1.2.1 (8 * q + k - 8 * i) (by omega) (by rw [(Fr_pass4 x i).people]; omega)
      rcases (show d = 0 ∨ d = 1 ∨ d = 2 ∨ d = 3 by omega) with rfl | rfl | rfl | rfl
      · exact h4.1
      · exact h4.2.1
      · exact h4.2.2.1
      · exact h4.2.2.2
    · rw [if_neg hc, if_neg hc]
      exact hxy.2 q k d a (by omega) c e f
  have h7 : lives M 44 7 = M 44 7 := (Fr_lives M).people
  rw [lives_eq] at h7
  rw [lives_eq, lives_eq]
  exact ⟨key.1.1, fun q k d a b c e f => key.2 q k d a (by omega) c (by omega) f⟩
theorem OutE.p {M N : Mem} (h : OutE M N) : N 44 7 = M 44 7 := h.1.1.1.1
theorem movesNow_E {M N : Mem} (h : OutE M N) : movesNow N = movesNow M := by
  unfold movesNow
  rw [h.p]
  exact forR_cong fun k n a b => by rw [(h.1.h ⟨a, b⟩).2.2.1]
theorem houseOf_E {M N : Mem} (h : OutE M N) {q : Int} (hq : 0 ≤ q ∧ q ≤ 15) (x : Int) : houseOf N q x = houseOf M q x := by
  unfold houseOf
  rw [h.p]
  exact forR_cong fun k w a b => by rw [show N 56 (8 * q + k) = M 56 (8 * q + k) from h.2 q k 0 hq.1 hq.2 a b (by omega)]
theorem boredOf_E {M N : Mem} (h : OutE M N) {k : Int} (hk : 0 ≤ k ∧ k < M 44 7) : boredOf N k = boredOf M k := by
  unfold boredOf
  refine forR_cong fun q n a b => ?_
  unfold brF
  rw [show N 56 (8 * q + k) = M 56 (8 * q + k) from h.2 q k 0 a (by omega) hk.1 hk.2 (by omega), houseOf_E h (by omega), houseOf_E h (by omega)]
theorem agreed_E {M N : Mem} (h : OutE M N) {q a b : Int} (hq : 0 ≤ q ∧ q ≤ 15) (ha : 0 ≤ a ∧ a < M 44 7) (hb : 0 ≤ b ∧ b < M 44 7) : agreed N q a b = agreed M q a b := by
  unfold agreed
  rw [h.1.1.2.1 (3 * a) (by omega) (by omega), h.1.1.2.1 (3 * b) (by omega) (by omega), show N 57 (8 * q + a) = M 57 (8 * q + a) from h.2 q a 1 hq.1 hq.2 ha.1 ha.2 (by omega), show N 57 (8 * q + b) = M 57 (8 * q + b) from h.2 q b 1 hq.1 hq.2 hb.1 hb.2 (by omega)]
theorem pairsOf_E {M N : Mem} (h : OutE M N) {q : Int} (hq : 0 ≤ q ∧ q ≤ 15) (w : Int) : pairsOf N q w = pairsOf M q w := by
  unfold pairsOf
  rw [h.p]
  refine forR_cong fun a n ha hb => ?_
  unfold prA
  rw [h.p]
  refine forR_cong fun b n hc hd => ?_
  unfold prB
  rw [agreed_E h hq ⟨ha, hb⟩ (b := b) (by omega), show N 56 (8 * q + a) = M 56 (8 * q + a) from h.2 q a 0 hq.1 hq.2 ha hb (by omega), show N 56 (8 * q + b) = M 56 (8 * q + b) from h.2 q b 0 hq.1 hq.2 (by omega) hd (by omega)]
theorem atBy_E {M N : Mem} (h : OutE M N) {q k : Int} (hq : 0 ≤ q ∧ q ≤ 15) (hk : 0 ≤ k ∧ k < M 44 7) (w : Int) : atBy N q k w = atBy M q k w := by
  unfold atBy
  rw [show N 56 (8 * q + k) = M 56 (8 * q + k) from h.2 q k 0 hq.1 hq.2 hk.1 hk.2 (by omega), show N 57 (8 * q + k) = M 57 (8 * q + k) from h.2 q k 1 hq.1 hq.2 hk.1 hk.2 (by omega), show N 58 (8 * q + k) = M 58 (8 * q + k) from h.2 q k 2 hq.1 hq.2 hk.1 hk.2 (by omega), show N 59 (8 * q + k) = M 59 (8 * q + k) from h.2 q k 3 hq.1 hq.2 hk.1 hk.2 (by omega)]
theorem rootedNow_E {M N : Mem} (h : OutE M N) : rootedNow N = rootedNow M := by
  unfold rootedNow
  rw [h.p]
  exact forR_cong fun k n a b => by rw [(h.1.h ⟨a, b⟩).2.2.1]
theorem friendsOf_E {M N : Mem} (h : OutE M N) {k : Int} (hk : 0 ≤ k ∧ k < M 44 7) : friendsOf N k = friendsOf M k := by
  unfold friendsOf
  rw [h.p]
  exact forR_cong fun j n a b => by rw [agree_E h.1 ⟨a, b⟩ hk]
theorem sumBy_E {M N : Mem} (h : OutE M N) (w : Int) : sumBy N w = sumBy M w := by
  unfold sumBy
  rw [movesNow_E h, h.1.2.2.1, h.1.2.2.2.1]
