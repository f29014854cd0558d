/-! ===== what a quarter's plan does ===== -/
noncomputable def plE (K : Mem) (q : Int) : Int → Int → Int := fun e w => if K 51 (3 * e + 1) = q ∧ ¬ isIn (K 44 11) e = true then plS w (K 51 (3 * e)) (K 51 (3 * e + 2)) else w
noncomputable def plW1 (K : Mem) (q : Int) : Int := forR 0 (K 44 9) (plE K q) 0
noncomputable def plW (K : Mem) (q : Int) : Int := if K 44 12 = q then plS (plW1 K q) (K 44 13) (K 44 14) else plW1 K q
/-- events are events -/
noncomputable def EV (M : Mem) : Prop := (0 ≤ M 44 9 ∧ M 44 9 ≤ 8) ∧ (∀ i, 0 ≤ i → i < M 44 9 → (0 ≤ M 51 (3 * i) ∧ M 51 (3 * i) ≤ 3) ∧ (0 ≤ M 51 (3 * i + 1) ∧ M 51 (3 * i + 1) ≤ 15) ∧ (0 ≤ M 51 (3 * i + 2) ∧ M 51 (3 * i + 2) ≤ 7)) ∧ (0 ≤ M 44 12 → (0 ≤ M 44 13 ∧ M 44 13 ≤ 3) ∧ (M 44 13 = 3 ∨ (0 ≤ M 44 14 ∧ M 44 14 ≤ 7)))
noncomputable def CG (K N : Mem) (w : Int) : Prop := (∀ p, 0 ≤ p → p < K 44 7 → N 53 p = iXor (K 53 p) (iAnd (iShr w (3 * p)) 7)) ∧ (N 44 23 = 0 ↔ iAnd w 16777216 = 0) ∧ (0 ≤ w ∧ w < 33554432) ∧ ∀ (c : Nat) (j : Int), c ≠ 53 → ¬ (c = 44 ∧ j = 23) → N c j = K c j
noncomputable def VR (K : Mem) : Prop := (0 ≤ K 44 7 ∧ K 44 7 ≤ 8) ∧ ∀ p, 0 ≤ p → p < K 44 7 → 0 ≤ K 53 p ∧ K 53 p ≤ 7
theorem fld0 : ∀ a p : Fin 8, iXor (a.val : Int) (iAnd (iShr 0 (3 * (p.val : Int))) 7) = (a.val : Int) := by decide +kernel
theorem CG_0 {K : Mem} (h : VR K) : CG K (upm K 44 23 0) 0 := by
  refine ⟨fun p a b => ?_, ⟨fun _ => by decide, fun _ => rd_eq⟩, by omega, fun c j a b => ?_⟩
  · have hv := h.2 p a b
    have hp := h.1
    have e := fld0 ⟨(K 53 p).toNat, by omega⟩ ⟨p.toNat, by omega⟩
    simp only [] at e
    rw [show (((K 53 p).toNat : Nat) : Int) = K 53 p by omega, show ((p.toNat : Nat) : Int) = p by omega] at e
    rw [rd_ne (by decide), e]
  · by_cases e : c = 44
    · subst e
      exact rd_ni (by omega)
    · exact rd_ne e
theorem shl3 {k : Int} (h : 0 ≤ k ∧ k ≤ 2) : 0 ≤ iShl 1 k ∧ iShl 1 k ≤ 7 := by
  rcases (show k = 0 ∨ k = 1 ∨ k = 2 by omega) with rfl | rfl | rfl <;> decide
theorem CG_hap {K N : Mem} {w kind k : Int} (hv : VR K) (h : CG K N w) (hk : 0 ≤ kind ∧ kind ≤ 3) (hp : kind = 3 ∨ (0 ≤ k ∧ k ≤ 7)) : CG K (happens N kind k) (plS w kind k) := by
  obtain ⟨h1, h2, h3, h4⟩ := h
  have e7 : N 44 7 = K 44 7 := h4 44 7 (by decide) (by omega)
  unfold happens plS
  by_cases e3 : kind = 3
  · rw [if_pos e3, if_pos e3]
    have ho := pl_o h3 (j := 0) (by omega)
    refine ⟨fun p a b => ?_, ⟨fun hh => ?_, fun hh => absurd hh ho.2.1⟩, ho.1, fun c j a b => ?_⟩
    · have := hv.1
      rw [rd_ne (by decide), h1 p a b, (pl_o h3 (j := p) (by omega)).2.2]
    · rw [rd_eq] at hh
      omega
    · rw [← h4 c j a b]
      by_cases e : c = 44
      · subst e
        exact rd_ni (by omega)
      · exact rd_ne e
  · rw [if_neg e3, if_neg e3]
    have hx := pl_xh h3 (b := 3 * k + kind) (by omega)
    have hs := shl3 (k := kind) (by omega)
    refine ⟨fun p a b => ?_, ?_, hx.1, fun c j a b => ?_⟩
    · have hp7 := hv.1
      have hvp := hv.2 p a b
      have hf := fld_r h3 (j := p) (by omega)
      rw [pl_x h3 (by omega) (by omega) (by omega)]
      by_cases e : p = k
      · subst e
        rw [if_pos (by omega), if_pos rfl, rd_eq, h1 p a b, x8s hvp hf hs]
      · rw [if_neg e]
        split
        · rw [rd_ni e]
          exact h1 p a b
        · exact h1 p a b
    · rw [hx.2]
      split
      · rw [rd_ne (by decide)]
        exact h2
      · exact h2
    · rw [← h4 c j a b]
      split
      · exact rd_ne a
      · rfl
theorem CG_pass1 {K : Mem} (hv : VR K) (hE : EV K) (q : Int) : CG K (pass1 K q) (plW1 K q) := by
  unfold pass1 plW1
  refine forR_rel (lo := 0) (hi := K 44 9) (f := pEv q) (g := plE K q) (fun _ N w => CG K N w) hE.1.1 (CG_0 hv) (fun e N w a b h => ?_)
  have h4 := h.2.2.2
  unfold pEv plE
  rw [h4 51 (3 * e + 1) (by decide) (by omega), h4 44 11 (by decide) (by omega), h4 51 (3 * e) (by decide) (by omega), h4 51 (3 * e + 2) (by decide) (by omega)]
  have he := hE.2.1 e a b
  split
  · exact CG_hap hv h he.1 (Or.inr he.2.2)
  · exact h
theorem CG_pass2 {K : Mem} (hv : VR K) (hE : EV K) {q : Int} (hq : 0 ≤ q) : CG K (pass2 K q) (plW K q) := by
  have h := CG_pass1 hv hE q
  unfold pass2 plW
  split
  · rename_i e
    have ho := hE.2.2 (by omega)
    exact CG_hap hv h ho.1 ho.2
  · exact h
/-! ===== who lives where ===== -/
theorem whoIn_none {K : Mem} {x : Int} (hp : 0 ≤ K 44 7) (h : ∀ k, 0 ≤ k → k < K 44 7 → K 52 k ≠ x) : whoIn K x = -1 := by
  unfold whoIn
  exact forR_inv (fun _ w => w = -1) hp rfl (fun k w a b hw => by rw [if_neg (h k a b)]; exact hw)
theorem whoIn_all {K : Mem} {x : Int} (hp : 0 ≤ K 44 7) : (whoIn K x = -1 ∧ ∀ k, 0 ≤ k → k < K 44 7 → K 52 k ≠ x) ∨ ((0 ≤ whoIn K x ∧ whoIn K x < K 44 7) ∧ K 52 (whoIn K x) = x) := by
  have key : (whoIn K x = -1 ∧ ∀ k, 0 ≤ k → k < K 44 7 → K 52 k ≠ x) ∨ ((0 ≤ whoIn K x ∧ whoIn K x < K 44 7) ∧ K 52 (whoIn K x) = x) := by
    unfold whoIn
    refine forR_inv (lo := 0) (hi := K 44 7) (fun i w => (w = -1 ∧ ∀ k, 0 ≤ k → k < i → K 52 k ≠ x) ∨ ((0 ≤ w ∧ w < i) ∧ K 52 w = x)) hp (Or.inl ⟨rfl, fun k a b => by omega⟩) (fun k w a b hw => ?_)
    by_cases e : K 52 k = x
    · rw [if_pos e]
      exact Or.inr ⟨by omega, e⟩
    · rw [if_neg e]
      rcases hw with hw | hw
      · exact Or.inl ⟨hw.1, fun j c d => if ej : j = k then (by rw [ej]; exact e) else hw.2 j c (by omega)⟩
      · exact Or.inr ⟨by omega, hw.2⟩
  exact key
noncomputable def DI (K : Mem) : Prop := ∀ a b, 0 ≤ a → a < K 44 7 → 0 ≤ b → b < K 44 7 → K 52 a = K 52 b → a = b
theorem whoIn_at {K : Mem} (hD : DI K) {k x : Int} (hk : 0 ≤ k ∧ k < K 44 7) (h : K 52 k = x) : whoIn K x = k := by
  rcases whoIn_all (K := K) (x := x) (by omega) with hw | hw
  · exact absurd h (hw.2 k hk.1 hk.2)
  · exact hD _ _ hw.1.1 hw.1.2 hk.1 hk.2 (by rw [hw.2, h])
/-- one moves to where nobody lives -/
theorem whoIn_move {K N : Mem} {k y : Int} (hD : DI K) (e7 : N 44 7 = K 44 7) (hk : 0 ≤ k ∧ k < K 44 7) (e52 : ∀ j, N 52 j = if j = k then y else K 52 j) (hy : whoIn K y = -1) : DI N ∧ ∀ x, whoIn N x = if x = y then k else if x = K 52 k then -1 else whoIn K x := by
  have hp : 0 ≤ K 44 7 := by omega
  have hn : ∀ j, 0 ≤ j → j < K 44 7 → K 52 j ≠ y := by
    rcases whoIn_all (K := K) (x := y) hp with hw | hw
    · exact hw.2
    · omega
  have hDN : DI N := by
    intro a b h1 h2 h3 h4 h5
    rw [e7] at h2 h4
    rw [e52, e52] at h5
    by_cases ea : a = k
    · by_cases eb : b = k
      · omega
      · rw [if_pos ea, if_neg eb] at h5
        exact absurd h5.symm (hn b h3 h4)
    · by_cases eb : b = k
      · rw [if_neg ea, if_pos eb] at h5
        exact absurd h5 (hn a h1 h2)
      · rw [if_neg ea, if_neg eb] at h5
        exact hD a b h1 h2 h3 h4 h5
  refine ⟨hDN, fun x => ?_⟩
  by_cases ex : x = y
  · rw [if_pos ex]
    exact whoIn_at hDN (by omega) (by rw [e52, if_pos rfl, ex])
  · rw [if_neg ex]
    by_cases e2 : x = K 52 k
    · rw [if_pos e2]
      refine whoIn_none (by omega) fun j a b => ?_
      rw [e7] at b
      rw [e52]
      by_cases ej : j = k
      · rw [if_pos ej]; exact fun hh => ex hh.symm
      · rw [if_neg ej, e2]
        exact fun hh => ej (hD j k a b hk.1 hk.2 hh)
    · rw [if_neg e2]
      rcases whoIn_all (K := K) (x := x) hp with hw | hw
      · rw [hw.1]
        refine whoIn_none (by omega) fun j a b => ?_
        rw [e7] at b
        rw [e52]
        by_cases ej : j = k
        · rw [if_pos ej]; exact fun hh => ex hh.symm
        · rw [if_neg ej]; exact hw.2 j a b
      · refine whoIn_at hDN (by omega) ?_
        rw [e52, if_neg (fun hh => e2 (by rw [← hw.2, hh])), hw.2]
theorem whoIn_same {K N : Mem} (e7 : N 44 7 = K 44 7) (e52 : N 52 = K 52) (x : Int) : whoIn N x = whoIn K x := by
  unfold whoIn
  rw [e7, e52]
theorem movesNow_up {K N : Mem} {k : Int} (e7 : N 44 7 = K 44 7) (hk : 0 ≤ k ∧ k < K 44 7) (e54 : ∀ j, N 54 j = if j = k then K 54 k + 1 else K 54 j) : movesNow N = movesNow K + 1 := by
  have key := forR_rel (lo := 0) (hi := K 44 7) (f := fun j x => x + N 54 j) (g := fun j x => x + K 54 j) (a := (0 : Int)) (b := (0 : Int)) (fun i x y => x = y + if k < i then 1 else 0) (by omega) (by rw [if_neg (by omega)]; rfl) (fun j x y a b h => by
    rw [e54]
    by_cases e : j = k
    · subst e
      rw [if_neg (by omega)] at h
      rw [if_pos rfl, if_pos (by omega)]
      omega
    · rw [if_neg e]
      by_cases e2 : k < j
      · rw [if_pos e2] at h
        rw [if_pos (by omega)]
        omega
      · rw [if_neg e2] at h
        rw [if_neg (by omega)]
        omega)
  rw [if_pos (by omega)] at key
  unfold movesNow
  rw [e7]
  exact key
theorem movesNow_same {K N : Mem} (e7 : N 44 7 = K 44 7) (e54 : N 54 = K 54) : movesNow N = movesNow K := by
  unfold movesNow
  rw [e7, e54]
