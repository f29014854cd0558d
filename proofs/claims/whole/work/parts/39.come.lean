/-! ===== the class: coming round ===== -/
noncomputable def dfS (M : Mem) (t : Nat) (p w : Int) : Int := if w = -1 ∨ M (24 + 8 * t) w = 2 then 0 else iXor (M (25 + 8 * t) p) (M (25 + 8 * t) w)
theorem k_differences (G : GT) (M : Mem) (t : Nat) (p w : Int) (ht : t < 2) (hp : 0 ≤ p ∧ p ≤ 7) (hw : -1 ≤ w ∧ w ≤ 7) : AM G yX1_differences cX1_differences 3 (some .int) 0 M [vR (4 + t), vI p, vI w] (qI (dfS M t p w) M) := by
  refine AM.mk (own := RX1) rfl sv_X1_differences.1.2.2.2.2.2 (Nat.le_of_ble_eq_true rfl) rfl ?_
  refine a_iload_n (kX1_differences.at 0 rfl) 2 rfl ?_
  refine a_iconst (kX1_differences.at 1 rfl) rfl ?_
  refine a_icmpeq (tgt := 15) (kX1_differences.at 2 rfl) (by decide) (fun h2 => ?_) (fun h2 => ?_)
  · refine a_iconst (kX1_differences.at 9 rfl) rfl ?_
    refine a_goto (tgt := 32) (kX1_differences.at 10 rfl) (by decide) ?_
    exact a_iretE (kX1_differences.at 20 rfl) (by unfold dfS; first | exact ⟨(if_pos (Or.inl h2)).symm, rfl⟩ | exact ⟨(if_neg (fun e => e.elim h2 h12)).symm, rfl⟩ | exact ⟨(if_pos (Or.inr h12)).symm, rfl⟩)
  · refine a_aload_n (kX1_differences.at 3 rfl) 0 rfl ?_
    refine a_getR (kX1_differences.at 4 rfl) fg_X1_9 (iR_C0 ht) ?_
    refine a_iload_n (kX1_differences.at 5 rfl) 2 rfl ?_
    refine a_iald (x := M (24 + 8 * t) w) (kX1_differences.at 6 rfl) (iA_C0 ht) (by omega) (rfl) ?_
    refine a_iconst (kX1_differences.at 7 rfl) rfl ?_
    refine a_icmpne (tgt := 19) (kX1_differences.at 8 rfl) (by decide) (fun h12 => ?_) (fun h12 => ?_)
    · refine a_aload_n (kX1_differences.at 11 rfl) 0 rfl ?_
      refine a_getR (kX1_differences.at 12 rfl) fg_X1_15 (iR_C1 ht) ?_
      refine a_iload_n (kX1_differences.at 13 rfl) 1 rfl ?_
      refine a_iald (x := M (25 + 8 * t) p) (kX1_differences.at 14 rfl) (iA_C1 ht) (by omega) (rfl) ?_
      refine a_aload_n (kX1_differences.at 15 rfl) 0 rfl ?_
      refine a_getR (kX1_differences.at 16 rfl) fg_X1_15 (iR_C1 ht) ?_
      refine a_iload_n (kX1_differences.at 17 rfl) 2 rfl ?_
      refine a_iald (x := M (25 + 8 * t) w) (kX1_differences.at 18 rfl) (iA_C1 ht) (by omega) (rfl) ?_
      refine a_ixor (kX1_differences.at 19 rfl) ?_
      exact a_iretE (kX1_differences.at 20 rfl) (by unfold dfS; first | exact ⟨(if_pos (Or.inl h2)).symm, rfl⟩ | exact ⟨(if_neg (fun e => e.elim h2 h12)).symm, rfl⟩ | exact ⟨(if_pos (Or.inr h12)).symm, rfl⟩)
    · refine a_iconst (kX1_differences.at 9 rfl) rfl ?_
      refine a_goto (tgt := 32) (kX1_differences.at 10 rfl) (by decide) ?_
      exact a_iretE (kX1_differences.at 20 rfl) (by unfold dfS; first | exact ⟨(if_pos (Or.inl h2)).symm, rfl⟩ | exact ⟨(if_neg (fun e => e.elim h2 h12)).symm, rfl⟩ | exact ⟨(if_pos (Or.inr h12)).symm, rfl⟩)
theorem df_iff {M K : Mem} {t : Nat} {q i j p w : Int} (hS : SC M t K) (hR : SR K q i j) (hp : 0 ≤ p ∧ p < K 44 7) (hw : -1 ≤ w ∧ w < K 44 7) : (dfS M t p w = 0 ↔ ¬ isOther K p w = true) ∧ (isOther K p w = true → dfS M t p w = iXor (K 53 p) (K 53 w)) := by
  have hp2 := hS.2.1 p hp.1 hp.2
  unfold dfS isOther
  simp only [decide_eq_true_eq]
  by_cases e1 : w = -1
  · rw [if_pos (Or.inl e1)]
    exact ⟨⟨fun _ z => z.1 e1, fun _ => rfl⟩, fun z => absurd e1 z.1⟩
  · have hw2 := hS.2.1 w (by omega) hw.2
    rw [hw2.1, hw2.2.1, hp2.2.1]
    by_cases e2 : K 50 (3 * w) = 2
    · rw [if_pos (Or.inr e2)]
      exact ⟨⟨fun _ z => z.2.1 e2, fun _ => rfl⟩, fun z => absurd e2 z.2.1⟩
    · rw [if_neg (fun z => z.elim e1 e2)]
      have hx := x8i (hR.2.1 p hp.1 hp.2).2.1 (hR.2.1 w (by omega) hw.2).2.1
      rw [hx.2.1]
      refine ⟨⟨fun z z2 => z2.2.2 z.symm, fun z => ?_⟩, fun _ => rfl⟩
      by_cases e3 : K 53 p = K 53 w
      · exact e3
      · exact absurd ⟨e1, e2, fun z2 => e3 z2.symm⟩ z
theorem SC.upV {N K : Mem} {t : Nat} {j v c : Int} (h : SC N t K) : SC (upm (upm N (25 + 8 * t) j v) (29 + 8 * t) j c) t (upm (upm K 53 j v) 55 j c) := by
  obtain ⟨h1, h2, h3, h4, h5, h6⟩ := h
  have f : ∀ (c' : Nat) (x : Int), c' ≠ 25 + 8 * t → c' ≠ 29 + 8 * t → upm (upm N (25 + 8 * t) j v) (29 + 8 * t) j c c' x = N c' x := fun c' x a b => by rw [rd_ne b, rd_ne a]
  have g : ∀ (c' : Nat) (x : Int), c' ≠ 53 → c' ≠ 55 → upm (upm K 53 j v) 55 j c c' x = K c' x := fun c' x a b => by rw [rd_ne b, rd_ne a]
  refine ⟨?_, fun p a b => ?_, fun i a b => ?_, ⟨?_, ?_, ?_, ?_, ?_⟩, ?_, ?_⟩
  · rw [f _ _ (by omega) (by omega), g _ _ (by decide) (by decide)]; exact h1
  · rw [g _ _ (by decide) (by decide)] at b
    have hp := h2 p a b
    refine ⟨by rw [f (24 + 8 * t) p (by omega) (by omega), g 50 _ (by decide) (by decide)]; exact hp.1, ?_, by rw [f (26 + 8 * t) p (by omega) (by omega), g 52 _ (by decide) (by decide)]; exact hp.2.2.1, by rw [f (28 + 8 * t) p (by omega) (by omega), g 54 _ (by decide) (by decide)]; exact hp.2.2.2.1, ?_⟩
    · rw [rd_ne (c := 25 + 8 * t) (k := 29 + 8 * t) (by omega), rd_ne (c := 53) (k := 55) (by decide), upm_same, upm_same]
      unfold ups
      split
      · rfl
      · exact hp.2.1
    · rw [upm_same, upm_same]
      unfold ups
      split
      · rfl
      · rw [rd_ne (c := 29 + 8 * t) (k := 25 + 8 * t) (by omega), rd_ne (c := 55) (k := 53) (by decide)]
        exact hp.2.2.2.2
  · rw [f _ _ (by omega) (by omega), h3 i a b]
    exact (whoIn_same (g _ _ (by decide) (by decide)) (funext fun x => g _ x (by decide) (by decide)) _).symm
  · rw [f _ _ (by omega) (by omega), h4.1]
    exact (movesNow_same (g _ _ (by decide) (by decide)) (funext fun x => g _ x (by decide) (by decide))).symm
  · rw [f _ _ (by omega) (by omega), g _ _ (by decide) (by decide)]; exact h4.2.1
  · rw [f _ _ (by omega) (by omega), g _ _ (by decide) (by decide)]; exact h4.2.2.1
  · rw [f _ _ (by omega) (by omega), g _ _ (by decide) (by decide)]; exact h4.2.2.2.1
  · rw [f _ _ (by omega) (by omega), g _ _ (by decide) (by decide)]; exact h4.2.2.2.2
  · rw [f _ _ (by omega) (by omega)]; exact h5
  · intro p a b
    rw [f _ _ (by omega) (by omega), g _ _ (by decide) (by decide), g _ _ (by decide) (by decide)]
    exact h6 p a b
theorem SC_come {N K : Mem} {t : Nat} {j w d : Int} (hS : SC N t K) (hj : 0 ≤ j ∧ j < K 44 7) (h1 : K 50 (3 * j) = 1) (ht : comesTo K j = w) (hw : w ≠ -1) (hd : d = iXor (K 53 j) (K 53 w)) : SC (upm (upm N (25 + 8 * t) j (iXor (N (25 + 8 * t) j) (iAnd d (wI (-d))))) (29 + 8 * t) j (N (29 + 8 * t) j + 1)) t (pCm j K) := by
  have hp := hS.2.1 j hj.1 hj.2
  have e : pCm j K = upm (upm K 53 j (iXor (K 53 j) (iAnd d (wI (-d))))) 55 j (K 55 j + 1) := by
    unfold pCm comes
    rw [if_pos h1, ht, if_neg hw, hd]
    rfl
  rw [e, hp.2.1, hp.2.2.2.2]
  exact hS.upV
theorem pCm_no {K : Mem} {j : Int} (h : K 50 (3 * j) ≠ 1) : pCm j K = K := by
  unfold pCm
  rw [if_neg h]
theorem pCm_none {K : Mem} {j : Int} (h : comesTo K j = -1) : pCm j K = K := by
  unfold pCm comes
  rw [if_pos h]
  split <;> rfl
set_option maxHeartbeats 4000000 in
set_option maxRecDepth 100000 in
theorem l_come (G : GT) (M K : Mem) (t : Nat) (q : Int) (P : Option AV → Mem → Prop) (ht : t < 2) (hS0 : SC M t K) (hR0 : SR K q 0 0) (hq : 0 ≤ q ∧ q ≤ 100) (hlohi : (0 : Int) ≤ (K 44 7)) (kk : ∀ (N : Mem), (SC N t (forR 0 (K 44 7) pCm K)) → (Fm t M N) → AW G RX1 cX1_comeRound 3 none (XM G 1 P) 96 [(0, vR (4 + t)), (1, vI (K 44 7))] [] N) : AW G RX1 cX1_comeRound 3 none (XM G 1 P) 2 [(0, vR (4 + t)), (1, vI 0)] [] M := by
  have key : ∀ (nn : Nat) (j : Int)  (N : Mem), (0 : Int) ≤ j → j ≤ (K 44 7) → (SC N t (forR 0 j pCm K)) → (Fm t M N) → (K 44 7) - j < nn → AW G RX1 cX1_comeRound 3 none (XM G 1 P) 2 [(0, vR (4 + t)), (1, vI j)] [] N := by
    intro nn
    induction nn with
    | zero => intro j N hk0 hk1  hS hF hn; omega
    | succ nn ih =>
      intro j N hk0 hk1  hS hF hn
      have hRa := SR_comeAll hR0 ⟨hk0, hk1⟩
      have e7 := hRa.2.people
      have e8 := hS.1
      refine a_iload_n (kX1_comeRound.at 2 rfl) 1 rfl ?_
      refine a_aload_n (kX1_comeRound.at 3 rfl) 0 rfl ?_
      refine a_getI (x := N (4 + t) 8) (kX1_comeRound.at 4 rfl) fg_X1_48 (iI_C8 ht) (rfl) ?_
      refine a_icmpge (tgt := 96) (kX1_comeRound.at 5 rfl) (by decide) (fun h7 => ?_) (fun h7 => ?_)
      · obtain rfl : j = K 44 7 := by omega
        exact kk N hS hF
      · obtain ⟨Kj, eK⟩ : ∃ z : Mem, z = forR 0 j pCm K := ⟨_, rfl⟩
        rw [← eK] at hS hRa e7 e8
        have hR := hRa.1
        have hp8 := hR.1
        have hj : 0 ≤ j ∧ j < Kj 44 7 := by omega
        have sj := hS.2.1 j hj.1 hj.2
        have rj := hR.2.1 j hj.1 hj.2
        have w1 := hS.2.2.1 (N (26 + 8 * t) j) (by omega) (by omega)
        have w2 := hS.2.2.1 (N (26 + 8 * t) j + 2) (by omega) (by omega)
        rw [sj.2.2.1] at w1
        rw [sj.2.2.1, show Kj 52 j + 2 - 1 = Kj 52 j + 1 by omega, ← sj.2.2.1] at w2
        rw [← sj.2.2.1] at w1
        have r1 := whoIn_r Kj (N (26 + 8 * t) j - 1) hp8.1
        have r2 := whoIn_r Kj (N (26 + 8 * t) j + 1) hp8.1
        have d1 := df_iff hS hR hj r1
        have d2 := df_iff hS hR hj r2
        have ec : comesTo Kj j = if isOther Kj j (whoIn Kj (N (26 + 8 * t) j - 1)) = true then whoIn Kj (N (26 + 8 * t) j - 1) else if isOther Kj j (whoIn Kj (N (26 + 8 * t) j + 1)) = true then whoIn Kj (N (26 + 8 * t) j + 1) else -1 := by unfold comesTo; rw [sj.2.2.1]
        rw [← w1] at d1 r1 ec
        rw [← w2] at d2 r2 ec
        refine a_aload_n (kX1_comeRound.at 6 rfl) 0 rfl ?_
        refine a_getR (kX1_comeRound.at 7 rfl) fg_X1_9 (iR_C0 ht) ?_
        refine a_iload_n (kX1_comeRound.at 8 rfl) 1 rfl ?_
        refine a_iald (x := N (24 + 8 * t) j) (kX1_comeRound.at 9 rfl) (iA_C0 ht) (by omega) (rfl) ?_
        refine a_iconst (kX1_comeRound.at 10 rfl) rfl ?_
        refine a_icmpeq (tgt := 23) (kX1_comeRound.at 11 rfl) (by decide) (fun h17 => ?_) (fun h17 => ?_)
        · refine a_aload_n (kX1_comeRound.at 13 rfl) 0 rfl ?_
          refine a_iload_n (kX1_comeRound.at 14 rfl) 1 rfl ?_
          refine a_aload_n (kX1_comeRound.at 15 rfl) 0 rfl ?_
          refine a_getR (kX1_comeRound.at 16 rfl) fg_X1_30 (iR_C6 ht) ?_
          refine a_aload_n (kX1_comeRound.at 17 rfl) 0 rfl ?_
          refine a_getR (kX1_comeRound.at 18 rfl) fg_X1_18 (iR_C2 ht) ?_
          refine a_iload_n (kX1_comeRound.at 19 rfl) 1 rfl ?_
          refine a_iald (x := N (26 + 8 * t) j) (kX1_comeRound.at 20 rfl) (iA_C2 ht) (by omega) (rfl) ?_
          refine a_iald (x := N (30 + 8 * t) (N (26 + 8 * t) j)) (kX1_comeRound.at 21 rfl) (iA_C6 ht) (by omega) (rfl) ?_
          refine AW.callV (as := [vI j, vI (N (30 + 8 * t) (N (26 + 8 * t) j))]) (st := []) (kX1_comeRound.at 22 rfl) ml_X1_109 sv_X1_differences (k := (4 + t)) (iO_C ht) rfl rfl ⟨Nat.le_of_ble_eq_true rfl, Nat.le_of_ble_eq_true rfl⟩ ⟨Nat.le_refl _, Nat.le_refl _⟩ rfl rfl (Nat.le_of_ble_eq_true rfl) (k_differences G N t j (N (30 + 8 * t) (N (26 + 8 * t) j)) ht (by omega) (by omega)) (kIE ?_)
          refine a_istore_n (ls' := [(0, vR (4 + t)), (1, vI j), (2, vI (dfS N t j (N (30 + 8 * t) (N (26 + 8 * t) j))))]) (kX1_comeRound.at 23 rfl) (by decide) rfl ?_
          refine a_iload_n (kX1_comeRound.at 24 rfl) 2 rfl ?_
          refine a_ifne (tgt := 63) (kX1_comeRound.at 25 rfl) (by decide) (fun h41 => ?_) (fun h41 => ?_)
          · refine a_iload_n (kX1_comeRound.at 39 rfl) 2 rfl ?_
            refine a_ifeq (tgt := 90) (kX1_comeRound.at 40 rfl) (by decide) (fun h64 => ?_) (fun h64 => ?_)
            · have stp : SC (N) t (pCm j Kj) := by first | (rw [pCm_no (by rw [← sj.1]; exact h17)]; exact hS) | exact absurd h64 h41 | (rw [pCm_none (by rw [ec, if_neg (d1.1.mp h41), if_neg (d2.1.mp h64)])]; exact hS) | exact SC_come hS hj (by rw [← sj.1]; exact h17) (by rw [ec, if_pos (Classical.byContradiction fun z => h41 (d1.1.mpr z))]) (isOther_at (Classical.byContradiction fun z => h41 (d1.1.mpr z))).1 (d1.2 (Classical.byContradiction fun z => h41 (d1.1.mpr z))) | exact SC_come hS hj (by rw [← sj.1]; exact h17) (by rw [ec, if_neg (d1.1.mp h41), if_pos (Classical.byContradiction fun z => h64 (d2.1.mpr z))]) (isOther_at (Classical.byContradiction fun z => h64 (d2.1.mpr z))).1 (d2.2 (Classical.byContradiction fun z => h64 (d2.1.mpr z)))
              have fstp : Fm t M (N) := by first | exact hF | exact (hF.up (by omega)).up (by omega)
              refine a_iinc (ls' := [(0, vR (4 + t)), (1, vI (j + 1)), (2, vI (dfS N t j (N (30 + 8 * t) (N (26 + 8 * t) j))))]) (kX1_comeRound.at 60 rfl) 1 rfl (by decide) (inr (by omega)) rfl ?_
              refine a_goto (tgt := 2) (kX1_comeRound.at 61 rfl) (by decide) ?_
              refine AW.loc (ls' := [(0, vR (4 + t)), (1, vI (j + 1))]) [0, 1] rfl ?_
              exact ih ((j + 1)) (N) (by omega) (by omega) (by rw [forR_succ hk0, ← eK]; exact stp) (fstp) (by omega)
            · refine a_aload_n (kX1_comeRound.at 41 rfl) 0 rfl ?_
              refine a_getR (kX1_comeRound.at 42 rfl) fg_X1_15 (iR_C1 ht) ?_
              refine a_iload_n (kX1_comeRound.at 43 rfl) 1 rfl ?_
              refine a_dup2 (kX1_comeRound.at 44 rfl) rfl rfl ?_
              refine a_iald (x := N (25 + 8 * t) j) (kX1_comeRound.at 45 rfl) (iA_C1 ht) (by omega) (rfl) ?_
              refine a_iload_n (kX1_comeRound.at 46 rfl) 2 rfl ?_
              refine a_iload_n (kX1_comeRound.at 47 rfl) 2 rfl ?_
              refine a_inegW (kX1_comeRound.at 48 rfl) ?_
              refine a_iand (kX1_comeRound.at 49 rfl) ?_
              refine a_ixor (kX1_comeRound.at 50 rfl) ?_
              refine a_iast (kX1_comeRound.at 51 rfl) (iA_C1 ht) (by omega) ?_
              refine a_aload_n (kX1_comeRound.at 52 rfl) 0 rfl ?_
              refine a_getR (kX1_comeRound.at 53 rfl) fg_X1_27 (iR_C5 ht) ?_
              refine a_iload_n (kX1_comeRound.at 54 rfl) 1 rfl ?_
              refine a_dup2 (kX1_comeRound.at 55 rfl) rfl rfl ?_
              refine a_iald (x := N (29 + 8 * t) j) (kX1_comeRound.at 56 rfl) (iA_C5 ht) (by omega) (rd_ne (by omega)) ?_
              refine a_iconst (kX1_comeRound.at 57 rfl) rfl ?_
              refine a_iadd (kX1_comeRound.at 58 rfl) (inr (by omega)) ?_
              refine a_iast (kX1_comeRound.at 59 rfl) (iA_C5 ht) (by omega) ?_
              have stp : SC ((upm (upm N (25 + 8 * t) j (iXor (N (25 + 8 * t) j) (iAnd (dfS N t j (N (30 + 8 * t) (N (26 + 8 * t) j))) (wI (-(dfS N t j (N (30 + 8 * t) (N (26 + 8 * t) j)))))))) (29 + 8 * t) j ((N (29 + 8 * t) j) + 1))) t (pCm j Kj) := by first | (rw [pCm_no (by rw [← sj.1]; exact h17)]; exact hS) | exact absurd h64 h41 | (rw [pCm_none (by rw [ec, if_neg (d1.1.mp h41), if_neg (d2.1.mp h64)])]; exact hS) | exact SC_come hS hj (by rw [← sj.1]; exact h17) (by rw [ec, if_pos (Classical.byContradiction fun z => h41 (d1.1.mpr z))]) (isOther_at (Classical.byContradiction fun z => h41 (d1.1.mpr z))).1 (d1.2 (Classical.byContradiction fun z => h41 (d1.1.mpr z))) | exact SC_come hS hj (by rw [← sj.1]; exact h17) (by rw [ec, if_neg (d1.1.mp h41), if_pos (Classical.byContradiction fun z => h64 (d2.1.mpr z))]) (isOther_at (Classical.byContradiction fun z => h64 (d2.1.mpr z))).1 (d2.2 (Classical.byContradiction fun z => h64 (d2.1.mpr z)))
              have fstp : Fm t M ((upm (upm N (25 + 8 * t) j (iXor (N (25 + 8 * t) j) (iAnd (dfS N t j (N (30 + 8 * t) (N (26 + 8 * t) j))) (wI (-(dfS N t j (N (30 + 8 * t) (N (26 + 8 * t) j)))))))) (29 + 8 * t) j ((N (29 + 8 * t) j) + 1))) := by first | exact hF | exact (hF.up (by omega)).up (by omega)
              refine a_iinc (ls' := [(0, vR (4 + t)), (1, vI (j + 1)), (2, vI (dfS N t j (N (30 + 8 * t) (N (26 + 8 * t) j))))]) (kX1_comeRound.at 60 rfl) 1 rfl (by decide) (inr (by omega)) rfl ?_
              refine a_goto (tgt := 2) (kX1_comeRound.at 61 rfl) (by decide) ?_
              refine AW.loc (ls' := [(0, vR (4 + t)), (1, vI (j + 1))]) [0, 1] rfl ?_
              exact ih ((j + 1)) ((upm (upm N (25 + 8 * t) j (iXor (N (25 + 8 * t) j) (iAnd (dfS N t j (N (30 + 8 * t) (N (26 + 8 * t) j))) (wI (-(dfS N t j (N (30 + 8 * t) (N (26 + 8 * t) j)))))))) (29 + 8 * t) j ((N (29 + 8 * t) j) + 1))) (by omega) (by omega) (by rw [forR_succ hk0, ← eK]; exact stp) (fstp) (by omega)
          · refine a_aload_n (kX1_comeRound.at 26 rfl) 0 rfl ?_
            refine a_iload_n (kX1_comeRound.at 27 rfl) 1 rfl ?_
            refine a_aload_n (kX1_comeRound.at 28 rfl) 0 rfl ?_
            refine a_getR (kX1_comeRound.at 29 rfl) fg_X1_30 (iR_C6 ht) ?_
            refine a_aload_n (kX1_comeRound.at 30 rfl) 0 rfl ?_
            refine a_getR (kX1_comeRound.at 31 rfl) fg_X1_18 (iR_C2 ht) ?_
            refine a_iload_n (kX1_comeRound.at 32 rfl) 1 rfl ?_
            refine a_iald (x := N (26 + 8 * t) j) (kX1_comeRound.at 33 rfl) (iA_C2 ht) (by omega) (rfl) ?_
            refine a_iconst (kX1_comeRound.at 34 rfl) rfl ?_
            refine a_iadd (kX1_comeRound.at 35 rfl) (inr (by omega)) ?_
            refine a_iald (x := N (30 + 8 * t) ((N (26 + 8 * t) j) + 2)) (kX1_comeRound.at 36 rfl) (iA_C6 ht) (by omega) (rfl) ?_
            refine AW.callV (as := [vI j, vI (N (30 + 8 * t) ((N (26 + 8 * t) j) + 2))]) (st := []) (kX1_comeRound.at 37 rfl) ml_X1_109 sv_X1_differences (k := (4 + t)) (iO_C ht) rfl rfl ⟨Nat.le_of_ble_eq_true rfl, Nat.le_of_ble_eq_true rfl⟩ ⟨Nat.le_refl _, Nat.le_refl _⟩ rfl rfl (Nat.le_of_ble_eq_true rfl) (k_differences G N t j (N (30 + 8 * t) ((N (26 + 8 * t) j) + 2)) ht (by omega) (by omega)) (kIE ?_)
            refine a_istore_n (ls' := [(0, vR (4 + t)), (1, vI j), (2, vI (dfS N t j (N (30 + 8 * t) ((N (26 + 8 * t) j) + 2))))]) (kX1_comeRound.at 38 rfl) (by decide) rfl ?_
            refine a_iload_n (kX1_comeRound.at 39 rfl) 2 rfl ?_
            refine a_ifeq (tgt := 90) (kX1_comeRound.at 40 rfl) (by decide) (fun h64 => ?_) (fun h64 => ?_)
            · have stp : SC (N) t (pCm j Kj) := by first | (rw [pCm_no (by rw [← sj.1]; exact h17)]; exact hS) | exact absurd h64 h41 | (rw [pCm_none (by rw [ec, if_neg (d1.1.mp h41), if_neg (d2.1.mp h64)])]; exact hS) | exact SC_come hS hj (by rw [← sj.1]; exact h17) (by rw [ec, if_pos (Classical.byContradiction fun z => h41 (d1.1.mpr z))]) (isOther_at (Classical.byContradiction fun z => h41 (d1.1.mpr z))).1 (d1.2 (Classical.byContradiction fun z => h41 (d1.1.mpr z))) | exact SC_come hS hj (by rw [← sj.1]; exact h17) (by rw [ec, if_neg (d1.1.mp h41), if_pos (Classical.byContradiction fun z => h64 (d2.1.mpr z))]) (isOther_at (Classical.byContradiction fun z => h64 (d2.1.mpr z))).1 (d2.2 (Classical.byContradiction fun z => h64 (d2.1.mpr z)))
              have fstp : Fm t M (N) := by first | exact hF | exact (hF.up (by omega)).up (by omega)
              refine a_iinc (ls' := [(0, vR (4 + t)), (1, vI (j + 1)), (2, vI (dfS N t j (N (30 + 8 * t) ((N (26 + 8 * t) j) + 2))))]) (kX1_comeRound.at 60 rfl) 1 rfl (by decide) (inr (by omega)) rfl ?_
              refine a_goto (tgt := 2) (kX1_comeRound.at 61 rfl) (by decide) ?_
              refine AW.loc (ls' := [(0, vR (4 + t)), (1, vI (j + 1))]) [0, 1] rfl ?_
              exact ih ((j + 1)) (N) (by omega) (by omega) (by rw [forR_succ hk0, ← eK]; exact stp) (fstp) (by omega)
            · refine a_aload_n (kX1_comeRound.at 41 rfl) 0 rfl ?_
              refine a_getR (kX1_comeRound.at 42 rfl) fg_X1_15 (iR_C1 ht) ?_
              refine a_iload_n (kX1_comeRound.at 43 rfl) 1 rfl ?_
              refine a_dup2 (kX1_comeRound.at 44 rfl) rfl rfl ?_
              refine a_iald (x := N (25 + 8 * t) j) (kX1_comeRound.at 45 rfl) (iA_C1 ht) (by omega) (rfl) ?_
              refine a_iload_n (kX1_comeRound.at 46 rfl) 2 rfl ?_
              refine a_iload_n (kX1_comeRound.at 47 rfl) 2 rfl ?_
              refine a_inegW (kX1_comeRound.at 48 rfl) ?_
              refine a_iand (kX1_comeRound.at 49 rfl) ?_
              refine a_ixor (kX1_comeRound.at 50 rfl) ?_
              refine a_iast (kX1_comeRound.at 51 rfl) (iA_C1 ht) (by omega) ?_
              refine a_aload_n (kX1_comeRound.at 52 rfl) 0 rfl ?_
              refine a_getR (kX1_comeRound.at 53 rfl) fg_X1_27 (iR_C5 ht) ?_
              refine a_iload_n (kX1_comeRound.at 54 rfl) 1 rfl ?_
              refine a_dup2 (kX1_comeRound.at 55 rfl) rfl rfl ?_
              refine a_iald (x := N (29 + 8 * t) j) (kX1_comeRound.at 56 rfl) (iA_C5 ht) (by omega) (rd_ne (by omega)) ?_
              refine a_iconst (kX1_comeRound.at 57 rfl) rfl ?_
              refine a_iadd (kX1_comeRound.at 58 rfl) (inr (by omega)) ?_
              refine a_iast (kX1_comeRound.at 59 rfl) (iA_C5 ht) (by omega) ?_
              have stp : SC ((upm (upm N (25 + 8 * t) j (iXor (N (25 + 8 * t) j) (iAnd (dfS N t j (N (30 + 8 * t) ((N (26 + 8 * t) j) + 2))) (wI (-(dfS N t j (N (30 + 8 * t) ((N (26 + 8 * t) j) + 2)))))))) (29 + 8 * t) j ((N (29 + 8 * t) j) + 1))) t (pCm j Kj) := by first | (rw [pCm_no (by rw [← sj.1]; exact h17)]; exact hS) | exact absurd h64 h41 | (rw [pCm_none (by rw [ec, if_neg (d1.1.mp h41), if_neg (d2.1.mp h64)])]; exact hS) | exact SC_come hS hj (by rw [← sj.1]; exact h17) (by rw [ec, if_pos (Classical.byContradiction fun z => h41 (d1.1.mpr z))]) (isOther_at (Classical.byContradiction fun z => h41 (d1.1.mpr z))).1 (d1.2 (Classical.byContradiction fun z => h41 (d1.1.mpr z))) | exact SC_come hS hj (by rw [← sj.1]; exact h17) (by rw [ec, if_neg (d1.1.mp h41), if_pos (Classical.byContradiction fun z => h64 (d2.1.mpr z))]) (isOther_at (Classical.byContradiction fun z => h64 (d2.1.mpr z))).1 (d2.2 (Classical.byContradiction fun z => h64 (d2.1.mpr z)))
              have fstp : Fm t M ((upm (upm N (25 + 8 * t) j (iXor (N (25 + 8 * t) j) (iAnd (dfS N t j (N (30 + 8 * t) ((N (26 + 8 * t) j) + 2))) (wI (-(dfS N t j (N (30 + 8 * t) ((N (26 + 8 * t) j) + 2)))))))) (29 + 8 * t) j ((N (29 + 8 * t) j) + 1))) := by first | exact hF | exact (hF.up (by omega)).up (by omega)
              refine a_iinc (ls' := [(0, vR (4 + t)), (1, vI (j + 1)), (2, vI (dfS N t j (N (30 + 8 * t) ((N (26 + 8 * t) j) + 2))))]) (kX1_comeRound.at 60 rfl) 1 rfl (by decide) (inr (by omega)) rfl ?_
              refine a_goto (tgt := 2) (kX1_comeRound.at 61 rfl) (by decide) ?_
              refine AW.loc (ls' := [(0, vR (4 + t)), (1, vI (j + 1))]) [0, 1] rfl ?_
              exact ih ((j + 1)) ((upm (upm N (25 + 8 * t) j (iXor (N (25 + 8 * t) j) (iAnd (dfS N t j (N (30 + 8 * t) ((N (26 + 8 * t) j) + 2))) (wI (-(dfS N t j (N (30 + 8 * t) ((N (26 + 8 * t) j) + 2)))))))) (29 + 8 * t) j ((N (29 + 8 * t) j) + 1))) (by omega) (by omega) (by rw [forR_succ hk0, ← eK]; exact stp) (fstp) (by omega)
        · refine a_goto (tgt := 90) (kX1_comeRound.at 12 rfl) (by decide) ?_
          have stp : SC (N) t (pCm j Kj) := by first | (rw [pCm_no (by rw [← sj.1]; exact h17)]; exact hS) | exact absurd h64 h41 | (rw [pCm_none (by rw [ec, if_neg (d1.1.mp h41), if_neg (d2.1.mp h64)])]; exact hS) | exact SC_come hS hj (by rw [← sj.1]; exact h17) (by rw [ec, if_pos (Classical.byContradiction fun z => h41 (d1.1.mpr z))]) (isOther_at (Classical.byContradiction fun z => h41 (d1.1.mpr z))).1 (d1.2 (Classical.byContradiction fun z => h41 (d1.1.mpr z))) | exact SC_come hS hj (by rw [← sj.1]; exact h17) (by rw [ec, if_neg (d1.1.mp h41), if_pos (Classical.byContradiction fun z => h64 (d2.1.mpr z))]) (isOther_at (Classical.byContradiction fun z => h64 (d2.1.mpr z))).1 (d2.2 (Classical.byContradiction fun z => h64 (d2.1.mpr z)))
          have fstp : Fm t M (N) := by first | exact hF | exact (hF.up (by omega)).up (by omega)
          refine a_iinc (ls' := [(0, vR (4 + t)), (1, vI (j + 1))]) (kX1_comeRound.at 60 rfl) 1 rfl (by decide) (inr (by omega)) rfl ?_
          refine a_goto (tgt := 2) (kX1_comeRound.at 61 rfl) (by decide) ?_
          exact ih ((j + 1)) (N) (by omega) (by omega) (by rw [forR_succ hk0, ← eK]; exact stp) (fstp) (by omega)
  exact key ((K 44 7) - (0) + 1 : Int).toNat (0) M (Int.le_refl _) hlohi  (by rw [forR_nil (Int.le_refl _)]; exact hS0) (Fm.refl t M) (by omega)
theorem k_comeRound (G : GT) (M K : Mem) (t : Nat) (q : Int) (ht : t < 2) (hS : SC M t K) (hR : SR K q 0 0) (hq : 0 ≤ q ∧ q ≤ 100) : AM G yX1_comeRound cX1_comeRound 3 none 1 M [vR (4 + t)] (pV fun N => SC N t (forR 0 (K 44 7) pCm K) ∧ Fm t M N) := by
  refine AM.mk (own := RX1) rfl sv_X1_comeRound.1.2.2.2.2.2 (Nat.le_of_ble_eq_true rfl) rfl ?_
  refine a_iconst (kX1_comeRound.at 0 rfl) rfl ?_
  refine a_istore_n (ls' := [(0, vR (4 + t)), (1, vI 0)]) (kX1_comeRound.at 1 rfl) (by decide) rfl ?_
  refine l_come G M K t q _ ht hS hR hq hR.1.1 ?_
  intro N1 hS1 hF1
  show AW _ _ _ _ _ _ 96 [(0, vR (4 + t)), (1, vI (K 44 7))] [] N1
  exact a_vret (kX1_comeRound.at 62 rfl) (⟨hS1, hF1⟩)

