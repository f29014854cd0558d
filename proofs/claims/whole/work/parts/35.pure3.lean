/-! ===== a quarter's ranges ===== -/
noncomputable def SR (K : Mem) (q i j : Int) : Prop := (0 ≤ K 44 7 ∧ K 44 7 ≤ 8) ∧ (∀ k, 0 ≤ k → k < K 44 7 → (0 ≤ K 52 k ∧ K 52 k ≤ 9) ∧ (0 ≤ K 53 k ∧ K 53 k ≤ 7) ∧ (0 ≤ K 54 k ∧ K 54 k ≤ q + if k < i then 1 else 0) ∧ (0 ≤ K 55 k ∧ K 55 k ≤ q + if k < j then 1 else 0)) ∧ DI K ∧ (K 44 26 = -1 ↔ movesNow K = 0) ∧ (0 ≤ K 44 24 ∧ K 44 24 ≤ 8 * q + i) ∧ (0 ≤ K 44 25 ∧ K 44 25 ≤ 9 * (8 * q + i)) ∧ (0 ≤ movesNow K ∧ movesNow K ≤ 8 * q + i)
theorem SR.vr {K : Mem} {q i j : Int} (h : SR K q i j) : VR K := ⟨h.1, fun p a b => (h.2.1 p a b).2.1⟩
theorem SR.next {K : Mem} {q i j : Int} (h : SR K q i j) (hi : i ≤ 8) : SR K (q + 1) 0 0 := by
  obtain ⟨h1, h2, h3, h4, h5, h6, h7⟩ := h
  refine ⟨h1, fun k a b => ?_, h3, h4, by omega, by omega, by omega⟩
  have := h2 k a b
  refine ⟨this.1, this.2.1, ⟨this.2.2.1.1, ?_⟩, this.2.2.2.1, ?_⟩
  · have e := this.2.2.1.2
    rw [if_neg (by omega)]
    split at e <;> omega
  · have e := this.2.2.2.2
    rw [if_neg (by omega)]
    split at e <;> omega
theorem SR.wide {K : Mem} {q j : Int} (h : SR K q 0 j) {n : Int} (hn : 0 ≤ n ∧ n ≤ 8) : SR K q n j := by
  obtain ⟨h1, h2, h3, h4, h5, h6, h7⟩ := h
  refine ⟨h1, fun k a b => ?_, h3, h4, by omega, by omega, by omega⟩
  have := h2 k a b
  refine ⟨this.1, this.2.1, ⟨this.2.2.1.1, ?_⟩, this.2.2.2⟩
  have e := this.2.2.1.2
  rw [if_neg (by omega)] at e
  split <;> omega
theorem SR_CG {K N : Mem} {q w : Int} (h : SR K q 0 0) (hc : CG K N w) : SR N q 0 0 := by
  obtain ⟨h1, h2, h3, h4, h5, h6, h7⟩ := h
  obtain ⟨c1, c2, c3, c4⟩ := hc
  have e7 : N 44 7 = K 44 7 := c4 44 7 (by decide) (by omega)
  have e52 : N 52 = K 52 := funext fun x => c4 52 x (by decide) (by omega)
  have e54 : N 54 = K 54 := funext fun x => c4 54 x (by decide) (by omega)
  have e55 : N 55 = K 55 := funext fun x => c4 55 x (by decide) (by omega)
  have em := movesNow_same e7 e54
  refine ⟨by rw [e7]; exact h1, fun k a b => ?_, ?_, ?_, ?_, ?_, by rw [em]; exact h7⟩
  · rw [e7] at b
    have := h2 k a b
    rw [e52, e54, e55]
    refine ⟨this.1, ?_, this.2.2⟩
    rw [c1 k a b]
    exact (x8i this.2.1 (fld_r c3 (by omega))).1
  · unfold DI
    rw [e7, e52]
    exact h3
  · rw [em, c4 44 26 (by decide) (by omega)]
    exact h4
  · rw [c4 44 24 (by decide) (by omega)]
    exact h5
  · rw [c4 44 25 (by decide) (by omega)]
    exact h6
theorem isOther_at {K : Mem} {k w : Int} (h : isOther K k w = true) : w ≠ -1 ∧ K 50 (3 * w) ≠ 2 ∧ K 53 w ≠ K 53 k := by simpa [isOther] using h
theorem comesTo_at (K : Mem) (k : Int) : comesTo K k = -1 ∨ (isOther K k (comesTo K k) = true ∧ (comesTo K k = whoIn K (K 52 k - 1) ∨ comesTo K k = whoIn K (K 52 k + 1))) := by
  unfold comesTo
  split
  · rename_i e
    exact Or.inr ⟨e, Or.inl rfl⟩
  · split
    · rename_i e
      exact Or.inr ⟨e, Or.inr rfl⟩
    · exact Or.inl rfl
theorem SR_comes {K : Mem} {q j : Int} (h : SR K q 0 j) (hj : 0 ≤ j ∧ j < K 44 7) : SR (comes K j) q 0 (j + 1) := by
  obtain ⟨h1, h2, h3, h4, h5, h6, h7⟩ := h
  have wide : SR K q 0 (j + 1) := by
    refine ⟨h1, fun k a b => ?_, h3, h4, h5, h6, h7⟩
    have := h2 k a b
    refine ⟨this.1, this.2.1, this.2.2.1, this.2.2.2.1, ?_⟩
    have e := this.2.2.2.2
    split at e
    · rw [if_pos (by omega)]; exact e
    · split <;> omega
  unfold comes
  split
  · exact wide
  · rename_i hne
    have ht := (comesTo_at K j).resolve_left hne
    have hr : 0 ≤ comesTo K j ∧ comesTo K j < K 44 7 := by
      have hn := (isOther_at ht.1).1
      have w1 := whoIn_r K (K 52 j - 1) h1.1
      have w2 := whoIn_r K (K 52 j + 1) h1.1
      rcases ht.2 with e | e <;> omega
    have hv := h2 (comesTo K j) hr.1 hr.2
    have hvj := h2 j hj.1 hj.2
    generalize comesTo K j = to at *
    have hx := x8i hvj.2.1 hv.2.1
    unfold comesX
    refine ⟨h1, fun k a b => ?_, h3, h4, h5, h6, h7⟩
    have hk := h2 k a b
    refine ⟨hk.1, ?_, hk.2.2.1, ?_⟩
    · show 0 ≤ ups (K 53) j _ k ∧ ups (K 53) j _ k ≤ 7
      unfold ups
      split
      · exact hx.2.2
      · exact hk.2.1
    · show 0 ≤ ups (K 55) j (K 55 j + 1) k ∧ ups (K 55) j (K 55 j + 1) k ≤ q + if k < j + 1 then 1 else 0
      unfold ups
      split
      · have e := hvj.2.2.2.2
        rw [if_neg (by omega)] at e
        rw [if_pos (by omega)]
        omega
      · have e := hk.2.2.2
        split at e
        · rw [if_pos (by omega)]; exact e
        · rw [if_neg (by omega)]; exact e
theorem SR_pCm {K : Mem} {q j : Int} (h : SR K q 0 j) (hj : 0 ≤ j ∧ j < K 44 7) : SR (pCm j K) q 0 (j + 1) := by
  unfold pCm
  split
  · exact SR_comes h hj
  · obtain ⟨h1, h2, h3⟩ := h
    refine ⟨h1, fun k a b => ?_, h3⟩
    have := h2 k a b
    refine ⟨this.1, this.2.1, this.2.2.1, this.2.2.2.1, ?_⟩
    have e := this.2.2.2.2
    split at e
    · rw [if_pos (by omega)]; exact e
    · split <;> omega
theorem SR_comeAll {K : Mem} {q : Int} (h : SR K q 0 0) {n : Int} (hn : 0 ≤ n ∧ n ≤ K 44 7) : SR (forR 0 n pCm K) q 0 n ∧ Fr K (forR 0 n pCm K) :=
  forR_inv (fun i N => SR N q 0 i ∧ Fr K N) hn.1 ⟨h, Fr.refl K⟩ (fun j N a b hN => ⟨SR_pCm hN.1 (by rw [hN.2.people]; omega), hN.2.trans (Fr_pCm j N)⟩)
/-! ===== the best house ===== -/
noncomputable def okH (K : Mem) (k h : Int) : Prop := whoIn K h = -1 ∧ ¬ isDead K k h = true
theorem best_all (K : Mem) (k : Int) : (best K k = -1 ∧ ∀ h, 0 ≤ h → h < 10 → ¬ okH K k h) ∨ ((0 ≤ best K k ∧ best K k < 10) ∧ okH K k (best K k) ∧ ∀ h, 0 ≤ h → h < 10 → okH K k h → apart (best K k) (K 52 k) < apart h (K 52 k) ∨ (apart (best K k) (K 52 k) = apart h (K 52 k) ∧ best K k ≤ h)) := by
  refine forR_inv (lo := 0) (hi := 10) (f := knBest K k) (a := (-1 : Int)) (fun i b => (b = -1 ∧ ∀ h, 0 ≤ h → h < i → ¬ okH K k h) ∨ ((0 ≤ b ∧ b < i) ∧ okH K k b ∧ ∀ h, 0 ≤ h → h < i → okH K k h → apart b (K 52 k) < apart h (K 52 k) ∨ (apart b (K 52 k) = apart h (K 52 k) ∧ b ≤ h))) (by omega) (Or.inl ⟨rfl, fun h a b => by omega⟩) (fun i b h1 h2 hb => ?_)
  unfold knBest
  by_cases ho : okH K k i
  · rcases hb with hb | hb
    · rw [if_pos ⟨ho, Or.inl hb.1⟩]
      refine Or.inr ⟨by omega, ho, fun h a c d => ?_⟩
      by_cases e : h = i
      · subst e; exact Or.inr ⟨rfl, Int.le_refl _⟩
      · exact absurd d (hb.2 h a (by omega))
    · by_cases hl : apart i (K 52 k) < apart b (K 52 k)
      · rw [if_pos ⟨ho, Or.inr hl⟩]
        refine Or.inr ⟨by omega, ho, fun h a c d => ?_⟩
        by_cases e : h = i
        · subst e; exact Or.inr ⟨rfl, Int.le_refl _⟩
        · have := hb.2.2 h a (by omega) d
          omega
      · rw [if_neg (by rintro ⟨_, e | e⟩ <;> omega)]
        refine Or.inr ⟨by omega, hb.2.1, fun h a c d => ?_⟩
        by_cases e : h = i
        · subst e; omega
        · exact hb.2.2 h a (by omega) d
  · rw [if_neg (fun hh => ho hh.1)]
    rcases hb with hb | hb
    · exact Or.inl ⟨hb.1, fun h a c => if e : h = i then (by rw [e]; exact ho) else hb.2 h a (by omega)⟩
    · exact Or.inr ⟨by omega, hb.2.1, fun h a c d => if e : h = i then absurd d (by rw [e]; exact ho) else hb.2.2 h a (by omega) d⟩
theorem best_is {K : Mem} {k x : Int} (hx : 0 ≤ x ∧ x < 10) (ho : okH K k x) (hm : ∀ h, 0 ≤ h → h < 10 → okH K k h → apart x (K 52 k) < apart h (K 52 k) ∨ (apart x (K 52 k) = apart h (K 52 k) ∧ x ≤ h)) : best K k = x := by
  rcases best_all K k with hb | hb
  · exact absurd ho (hb.2 x hx.1 hx.2)
  · have h1 := hb.2.2 x hx.1 hx.2 ho
    have h2 := hm _ hb.1.1 hb.1.2 hb.2.1
    omega
theorem best_none {K : Mem} {k : Int} (h : ∀ h, 0 ≤ h → h < 10 → ¬ okH K k h) : best K k = -1 := by
  rcases best_all K k with hb | hb
  · exact hb.1
  · exact absurd hb.2.1 (h _ hb.1.1 hb.1.2)
theorem SR_knocks {K : Mem} {q i j : Int} (h : SR K q i j) (hq : 0 ≤ q) (hi : 0 ≤ i ∧ i < K 44 7) : SR (knocks K q i) q (i + 1) j ∧ (best K i ≠ -1 → isDead K i (K 52 i) = true → movesNow (knocks K q i) = movesNow K + 1 ∧ ∀ x, whoIn (knocks K q i) x = if x = best K i then i else if x = K 52 i then -1 else whoIn K x) := by
  obtain ⟨h1, h2, h3, h4, h5, h6, h7⟩ := h
  have wide : ∀ k, 0 ≤ k → k < K 44 7 → 0 ≤ K 54 k ∧ K 54 k ≤ q + if k < i + 1 then 1 else 0 := fun k a b => by
    have := (h2 k a b).2.2.1
    refine ⟨this.1, ?_⟩
    have e := this.2
    split at e
    · rw [if_pos (by omega)]; exact e
    · split <;> omega
  unfold knocks
  by_cases hd : isDead K i (K 52 i) = true
  · rw [if_pos hd]
    by_cases hb : best K i = -1
    · rw [if_pos hb]
      refine ⟨⟨h1, fun k a b => ⟨(h2 k a b).1, (h2 k a b).2.1, wide k a b, (h2 k a b).2.2.2⟩, h3, h4, ?_, ?_, ?_⟩, fun hh => absurd hb hh⟩
      · show 0 ≤ K 44 24 + 1 ∧ K 44 24 + 1 ≤ 8 * q + (i + 1)
        omega
      · show 0 ≤ K 44 25 ∧ K 44 25 ≤ 9 * (8 * q + (i + 1))
        omega
      · show 0 ≤ movesNow K ∧ movesNow K ≤ 8 * q + (i + 1)
        omega
    · rw [if_neg hb]
      have ha := (best_all K i).resolve_left (fun hh => hb hh.1)
      have hik := h2 i hi.1 hi.2
      have hap : 0 ≤ apart (best K i) (K 52 i) ∧ apart (best K i) (K 52 i) ≤ 9 := by unfold apart; split <;> omega
      have hw := ha.2.1.1
      have hb9 := ha.1
      generalize best K i = y at *
      have e52 : ∀ x, knocksX K q i y 52 x = if x = i then y else K 52 x := fun x => rfl
      have e54 : ∀ x, knocksX K q i y 54 x = if x = i then K 54 i + 1 else K 54 x := fun x => rfl
      have e7 : knocksX K q i y 44 7 = K 44 7 := rfl
      have hmv := whoIn_move h3 e7 hi e52 hw
      have hmn := movesNow_up e7 hi e54
      refine ⟨⟨h1, fun k a b => ?_, hmv.1, ?_, ?_, ?_, ?_⟩, fun _ _ => ⟨hmn, hmv.2⟩⟩
      · have hk := h2 k a b
        refine ⟨?_, hk.2.1, ?_, hk.2.2.2⟩
        · rw [e52]
          split
          · omega
          · exact hk.1
        · rw [e54]
          split
          · have e := hik.2.2.1
            rw [if_neg (by omega)] at e
            rw [if_pos (by omega)]
            omega
          · exact wide k a b
      · rw [hmn]
        show (if K 44 26 = -1 then q else K 44 26) = -1 ↔ _
        split
        · omega
        · omega
      · show 0 ≤ K 44 24 ∧ K 44 24 ≤ 8 * q + (i + 1)
        omega
      · show 0 ≤ K 44 25 + apart y (K 52 i) ∧ K 44 25 + apart y (K 52 i) ≤ 9 * (8 * q + (i + 1))
        omega
      · rw [hmn]
        omega
  · rw [if_neg hd]
    exact ⟨⟨h1, fun k a b => ⟨(h2 k a b).1, (h2 k a b).2.1, wide k a b, (h2 k a b).2.2.2⟩, h3, h4, by omega, by omega, by omega⟩, fun _ hh => absurd hh hd⟩
theorem SR_knockAll {K : Mem} {q j : Int} (h : SR K q 0 j) (hq : 0 ≤ q) {n : Int} (hn : 0 ≤ n ∧ n ≤ K 44 7) : SR (forR 0 n (fun k N => knocks N q k) K) q n j ∧ Fr K (forR 0 n (fun k N => knocks N q k) K) :=
  forR_inv (fun i N => SR N q i j ∧ Fr K N) hn.1 ⟨h, Fr.refl K⟩ (fun i N a b hN => ⟨(SR_knocks hN.1 hq (by rw [hN.2.people]; omega)).1, hN.2.trans (Fr_knocks N q i)⟩)
