/-! ===== the class: a course against the reference's state ===== -/
/-- course t of the class (memory M) stands where the reference's K stands -/
noncomputable def SC (M : Mem) (t : Nat) (K : Mem) : Prop := M (4 + t) 8 = K 44 7 ∧ (∀ p, 0 ≤ p → p < K 44 7 → M (24 + 8 * t) p = K 50 (3 * p) ∧ M (25 + 8 * t) p = K 53 p ∧ M (26 + 8 * t) p = K 52 p ∧ M (28 + 8 * t) p = K 54 p ∧ M (29 + 8 * t) p = K 55 p) ∧ (∀ i, 0 ≤ i → i ≤ 11 → M (30 + 8 * t) i = whoIn K (i - 1)) ∧ (M (4 + t) 9 = movesNow K ∧ M (4 + t) 10 = K 44 24 ∧ M (4 + t) 11 = K 44 25 ∧ M (4 + t) 12 = K 44 26 ∧ M (4 + t) 13 = K 44 27) ∧ (0 ≤ M (4 + t) 14 ∧ M (4 + t) 14 < 256) ∧ ∀ p, 0 ≤ p → p ≤ 7 → (isIn (M (4 + t) 14) p = true ↔ p < K 44 7 ∧ 0 < K 54 p)
/-- only what a run alters of course t differs, trace and plans aside -/
noncomputable def Fm (t : Nat) (M N : Mem) : Prop := ∀ (c : Nat) (j : Int), c ≠ 25 + 8 * t → c ≠ 26 + 8 * t → c ≠ 28 + 8 * t → c ≠ 29 + 8 * t → c ≠ 30 + 8 * t → ¬ (c = 4 + t ∧ 9 ≤ j ∧ j ≤ 14) → N c j = M c j
theorem Fm.refl (t : Nat) (M : Mem) : Fm t M M := fun _ _ _ _ _ _ _ _ => rfl
theorem Fm.trans {t : Nat} {M N K : Mem} (h1 : Fm t M N) (h2 : Fm t N K) : Fm t M K := fun c j a b d e f g => (h2 c j a b d e f g).trans (h1 c j a b d e f g)
theorem Fm.up {t : Nat} {M N : Mem} (h : Fm t M N) {c : Nat} {i v : Int} (hc : c = 25 + 8 * t ∨ c = 26 + 8 * t ∨ c = 28 + 8 * t ∨ c = 29 + 8 * t ∨ c = 30 + 8 * t ∨ (c = 4 + t ∧ 9 ≤ i ∧ i ≤ 14)) : Fm t M (upm N c i v) := fun c' j a b d e f g => by
  rw [← h c' j a b d e f g]
  by_cases ec : c' = c
  · subst ec
    rw [upm_same, ups_ne (by omega)]
  · rw [upm_ne ec]
noncomputable def nb (K : Mem) (k w : Int) : Prop := w ≠ -1 ∧ w ≠ k ∧ K 50 (3 * k) ≠ 2 ∧ K 50 (3 * w) ≠ 2 ∧ K 53 k = K 53 w
theorem isDead_iff (K : Mem) (k h : Int) : isDead K k h = true ↔ nb K k (whoIn K (h - 1)) ∨ nb K k (whoIn K (h + 1)) := by
  unfold isDead nb agree
  simp only [decide_eq_true_eq]
theorem wa3 (G : GT) (M K : Mem) (t : Nat) (p h : Int) (ht : t < 2) (hh : 0 ≤ h ∧ h ≤ 9) (n1 : ¬ nb K p (whoIn K (h - 1))) (n2 : ¬ nb K p (whoIn K (h + 1))) : AW G RX1 cX1_wouldAgree 5 (some .boolean) (XM G 0 (qI (bI (isDead K p h = true)) M)) 14 [(0, vR (4 + t)), (1, vI p), (2, vI h), (3, vI (h + 2 + 2))] [] M := by
  refine a_iload_n (kX1_wouldAgree.at 10 rfl) 3 rfl ?_
  refine a_iload_n (kX1_wouldAgree.at 11 rfl) 2 rfl ?_
  refine a_iconst (kX1_wouldAgree.at 12 rfl) rfl ?_
  refine a_iadd (kX1_wouldAgree.at 13 rfl) (inr (by omega)) ?_
  refine a_icmpgt (tgt := 76) (kX1_wouldAgree.at 14 rfl) (by decide) (fun h18 => ?_) (fun h18 => ?_)
  · refine a_iconst (kX1_wouldAgree.at 45 rfl) rfl ?_
    exact a_zretE (kX1_wouldAgree.at 46 rfl) (by first | exact Or.inl rfl | exact Or.inr rfl | omega) (⟨(bI_0 (fun e => ((isDead_iff K p h).mp e).elim n1 n2)).symm, rfl⟩)
  · exfalso; omega
theorem wa2 (G : GT) (M K : Mem) (t : Nat) (p h : Int) (ht : t < 2) (hS : SC M t K) (hp8 : 0 ≤ K 44 7 ∧ K 44 7 ≤ 8) (hp : 0 ≤ p ∧ p < K 44 7) (hs : K 50 (3 * p) ≠ 2) (hh : 0 ≤ h ∧ h ≤ 9) (n1 : ¬ nb K p (whoIn K (h - 1))) : AW G RX1 cX1_wouldAgree 5 (some .boolean) (XM G 0 (qI (bI (isDead K p h = true)) M)) 14 [(0, vR (4 + t)), (1, vI p), (2, vI h), (3, vI (h + 2))] [] M := by
  have w := hS.2.2.1 (h + 2) (by omega) (by omega)
  rw [show h + 2 - 1 = h + 1 by omega] at w
  have r := whoIn_r K (h + 1) hp8.1
  have sp := hS.2.1 p hp.1 hp.2
  have sw := fun e : whoIn K (h + 1) ≠ -1 => hS.2.1 (whoIn K (h + 1)) (by omega) r.2
  rw [← w] at r sw
  refine a_iload_n (kX1_wouldAgree.at 10 rfl) 3 rfl ?_
  refine a_iload_n (kX1_wouldAgree.at 11 rfl) 2 rfl ?_
  refine a_iconst (kX1_wouldAgree.at 12 rfl) rfl ?_
  refine a_iadd (kX1_wouldAgree.at 13 rfl) (inr (by omega)) ?_
  refine a_icmpgt (tgt := 76) (kX1_wouldAgree.at 14 rfl) (by decide) (fun h18 => ?_) (fun h18 => ?_)
  · exfalso; omega
  · refine a_aload_n (kX1_wouldAgree.at 15 rfl) 0 rfl ?_
    refine a_getR (kX1_wouldAgree.at 16 rfl) fg_X1_30 (iR_C6 ht) ?_
    refine a_iload_n (kX1_wouldAgree.at 17 rfl) 3 rfl ?_
    refine a_iald (x := M (30 + 8 * t) (h + 2)) (kX1_wouldAgree.at 18 rfl) (iA_C6 ht) (by omega) (rfl) ?_
    refine a_istore (ls' := [(0, vR (4 + t)), (1, vI p), (2, vI h), (3, vI (h + 2)), (4, vI (M (30 + 8 * t) (h + 2)))]) (kX1_wouldAgree.at 19 rfl) (by decide) rfl ?_
    refine a_iload (kX1_wouldAgree.at 20 rfl) 4 rfl ?_
    refine a_iconst (kX1_wouldAgree.at 21 rfl) rfl ?_
    refine a_icmpeq (tgt := 70) (kX1_wouldAgree.at 22 rfl) (by decide) (fun h32 => ?_) (fun h32 => ?_)
    · refine a_iinc (ls' := [(0, vR (4 + t)), (1, vI p), (2, vI h), (3, vI ((h + 2) + 2)), (4, vI (M (30 + 8 * t) (h + 2)))]) (kX1_wouldAgree.at 43 rfl) 3 rfl (by decide) (inr (by omega)) rfl ?_
      refine a_goto (tgt := 14) (kX1_wouldAgree.at 44 rfl) (by decide) ?_
      refine AW.loc (ls' := [(0, vR (4 + t)), (1, vI p), (2, vI h), (3, vI ((h + 2) + 2))]) [0, 1, 2, 3] rfl ?_
      exact wa3 G M K t p h ht hh n1 (fun e => by unfold nb at e; rw [← w] at e; first | exact e.1 h32 | exact e.2.1 h38 | exact e.2.2.2.1 (by rw [← sv.1]; exact h49) | exact h65 (by rw [sv.2.1, sp.2.1]; exact e.2.2.2.2.symm))
    · have sv := sw h32
      refine a_iload (kX1_wouldAgree.at 23 rfl) 4 rfl ?_
      refine a_iload_n (kX1_wouldAgree.at 24 rfl) 1 rfl ?_
      refine a_icmpeq (tgt := 70) (kX1_wouldAgree.at 25 rfl) (by decide) (fun h38 => ?_) (fun h38 => ?_)
      · refine a_iinc (ls' := [(0, vR (4 + t)), (1, vI p), (2, vI h), (3, vI ((h + 2) + 2)), (4, vI (M (30 + 8 * t) (h + 2)))]) (kX1_wouldAgree.at 43 rfl) 3 rfl (by decide) (inr (by omega)) rfl ?_
        refine a_goto (tgt := 14) (kX1_wouldAgree.at 44 rfl) (by decide) ?_
        refine AW.loc (ls' := [(0, vR (4 + t)), (1, vI p), (2, vI h), (3, vI ((h + 2) + 2))]) [0, 1, 2, 3] rfl ?_
        exact wa3 G M K t p h ht hh n1 (fun e => by unfold nb at e; rw [← w] at e; first | exact e.1 h32 | exact e.2.1 h38 | exact e.2.2.2.1 (by rw [← sv.1]; exact h49) | exact h65 (by rw [sv.2.1, sp.2.1]; exact e.2.2.2.2.symm))
      · refine a_aload_n (kX1_wouldAgree.at 26 rfl) 0 rfl ?_
        refine a_getR (kX1_wouldAgree.at 27 rfl) fg_X1_9 (iR_C0 ht) ?_
        refine a_iload (kX1_wouldAgree.at 28 rfl) 4 rfl ?_
        refine a_iald (x := M (24 + 8 * t) (M (30 + 8 * t) (h + 2))) (kX1_wouldAgree.at 29 rfl) (iA_C0 ht) (by omega) (rfl) ?_
        refine a_iconst (kX1_wouldAgree.at 30 rfl) rfl ?_
        refine a_icmpeq (tgt := 70) (kX1_wouldAgree.at 31 rfl) (by decide) (fun h49 => ?_) (fun h49 => ?_)
        · refine a_iinc (ls' := [(0, vR (4 + t)), (1, vI p), (2, vI h), (3, vI ((h + 2) + 2)), (4, vI (M (30 + 8 * t) (h + 2)))]) (kX1_wouldAgree.at 43 rfl) 3 rfl (by decide) (inr (by omega)) rfl ?_
          refine a_goto (tgt := 14) (kX1_wouldAgree.at 44 rfl) (by decide) ?_
          refine AW.loc (ls' := [(0, vR (4 + t)), (1, vI p), (2, vI h), (3, vI ((h + 2) + 2))]) [0, 1, 2, 3] rfl ?_
          exact wa3 G M K t p h ht hh n1 (fun e => by unfold nb at e; rw [← w] at e; first | exact e.1 h32 | exact e.2.1 h38 | exact e.2.2.2.1 (by rw [← sv.1]; exact h49) | exact h65 (by rw [sv.2.1, sp.2.1]; exact e.2.2.2.2.symm))
        · refine a_aload_n (kX1_wouldAgree.at 32 rfl) 0 rfl ?_
          refine a_getR (kX1_wouldAgree.at 33 rfl) fg_X1_15 (iR_C1 ht) ?_
          refine a_iload (kX1_wouldAgree.at 34 rfl) 4 rfl ?_
          refine a_iald (x := M (25 + 8 * t) (M (30 + 8 * t) (h + 2))) (kX1_wouldAgree.at 35 rfl) (iA_C1 ht) (by omega) (rfl) ?_
          refine a_aload_n (kX1_wouldAgree.at 36 rfl) 0 rfl ?_
          refine a_getR (kX1_wouldAgree.at 37 rfl) fg_X1_15 (iR_C1 ht) ?_
          refine a_iload_n (kX1_wouldAgree.at 38 rfl) 1 rfl ?_
          refine a_iald (x := M (25 + 8 * t) p) (kX1_wouldAgree.at 39 rfl) (iA_C1 ht) (by omega) (rfl) ?_
          refine a_icmpne (tgt := 70) (kX1_wouldAgree.at 40 rfl) (by decide) (fun h65 => ?_) (fun h65 => ?_)
          · refine a_iinc (ls' := [(0, vR (4 + t)), (1, vI p), (2, vI h), (3, vI ((h + 2) + 2)), (4, vI (M (30 + 8 * t) (h + 2)))]) (kX1_wouldAgree.at 43 rfl) 3 rfl (by decide) (inr (by omega)) rfl ?_
            refine a_goto (tgt := 14) (kX1_wouldAgree.at 44 rfl) (by decide) ?_
            refine AW.loc (ls' := [(0, vR (4 + t)), (1, vI p), (2, vI h), (3, vI ((h + 2) + 2))]) [0, 1, 2, 3] rfl ?_
            exact wa3 G M K t p h ht hh n1 (fun e => by unfold nb at e; rw [← w] at e; first | exact e.1 h32 | exact e.2.1 h38 | exact e.2.2.2.1 (by rw [← sv.1]; exact h49) | exact h65 (by rw [sv.2.1, sp.2.1]; exact e.2.2.2.2.symm))
          · refine a_iconst (kX1_wouldAgree.at 41 rfl) rfl ?_
            exact a_zretE (kX1_wouldAgree.at 42 rfl) (by first | exact Or.inl rfl | exact Or.inr rfl | omega) (⟨(bI_1 ((isDead_iff K p h).mpr (Or.inr (by unfold nb; rw [← w]; exact ⟨h32, h38, hs, by rw [← sv.1]; exact h49, by rw [← sv.2.1, ← sp.2.1]; exact h65.symm⟩)))).symm, rfl⟩)
theorem wa1 (G : GT) (M K : Mem) (t : Nat) (p h : Int) (ht : t < 2) (hS : SC M t K) (hp8 : 0 ≤ K 44 7 ∧ K 44 7 ≤ 8) (hp : 0 ≤ p ∧ p < K 44 7) (hs : K 50 (3 * p) ≠ 2) (hh : 0 ≤ h ∧ h ≤ 9) : AW G RX1 cX1_wouldAgree 5 (some .boolean) (XM G 0 (qI (bI (isDead K p h = true)) M)) 14 [(0, vR (4 + t)), (1, vI p), (2, vI h), (3, vI h)] [] M := by
  have w := hS.2.2.1 h (by omega) (by omega)
  have r := whoIn_r K (h - 1) hp8.1
  have sp := hS.2.1 p hp.1 hp.2
  have sw := fun e : whoIn K (h - 1) ≠ -1 => hS.2.1 (whoIn K (h - 1)) (by omega) r.2
  rw [← w] at r sw
  refine a_iload_n (kX1_wouldAgree.at 10 rfl) 3 rfl ?_
  refine a_iload_n (kX1_wouldAgree.at 11 rfl) 2 rfl ?_
  refine a_iconst (kX1_wouldAgree.at 12 rfl) rfl ?_
  refine a_iadd (kX1_wouldAgree.at 13 rfl) (inr (by omega)) ?_
  refine a_icmpgt (tgt := 76) (kX1_wouldAgree.at 14 rfl) (by decide) (fun h18 => ?_) (fun h18 => ?_)
  · exfalso; omega
  · refine a_aload_n (kX1_wouldAgree.at 15 rfl) 0 rfl ?_
    refine a_getR (kX1_wouldAgree.at 16 rfl) fg_X1_30 (iR_C6 ht) ?_
    refine a_iload_n (kX1_wouldAgree.at 17 rfl) 3 rfl ?_
    refine a_iald (x := M (30 + 8 * t) h) (kX1_wouldAgree.at 18 rfl) (iA_C6 ht) (by omega) (rfl) ?_
    refine a_istore (ls' := [(0, vR (4 + t)), (1, vI p), (2, vI h), (3, vI h), (4, vI (M (30 + 8 * t) h))]) (kX1_wouldAgree.at 19 rfl) (by decide) rfl ?_
    refine a_iload (kX1_wouldAgree.at 20 rfl) 4 rfl ?_
    refine a_iconst (kX1_wouldAgree.at 21 rfl) rfl ?_
    refine a_icmpeq (tgt := 70) (kX1_wouldAgree.at 22 rfl) (by decide) (fun h32 => ?_) (fun h32 => ?_)
    · refine a_iinc (ls' := [(0, vR (4 + t)), (1, vI p), (2, vI h), (3, vI (h + 2)), (4, vI (M (30 + 8 * t) h))]) (kX1_wouldAgree.at 43 rfl) 3 rfl (by decide) (inr (by omega)) rfl ?_
      refine a_goto (tgt := 14) (kX1_wouldAgree.at 44 rfl) (by decide) ?_
      refine AW.loc (ls' := [(0, vR (4 + t)), (1, vI p), (2, vI h), (3, vI (h + 2))]) [0, 1, 2, 3] rfl ?_
      exact wa2 G M K t p h ht hS hp8 hp hs hh (fun e => by unfold nb at e; rw [← w] at e; first | exact e.1 h32 | exact e.2.1 h38 | exact e.2.2.2.1 (by rw [← sv.1]; exact h49) | exact h65 (by rw [sv.2.1, sp.2.1]; exact e.2.2.2.2.symm))
    · have sv := sw h32
      refine a_iload (kX1_wouldAgree.at 23 rfl) 4 rfl ?_
      refine a_iload_n (kX1_wouldAgree.at 24 rfl) 1 rfl ?_
      refine a_icmpeq (tgt := 70) (kX1_wouldAgree.at 25 rfl) (by decide) (fun h38 => ?_) (fun h38 => ?_)
      · refine a_iinc (ls' := [(0, vR (4 + t)), (1, vI p), (2, vI h), (3, vI (h + 2)), (4, vI (M (30 + 8 * t) h))]) (kX1_wouldAgree.at 43 rfl) 3 rfl (by decide) (inr (by omega)) rfl ?_
        refine a_goto (tgt := 14) (kX1_wouldAgree.at 44 rfl) (by decide) ?_
        refine AW.loc (ls' := [(0, vR (4 + t)), (1, vI p), (2, vI h), (3, vI (h + 2))]) [0, 1, 2, 3] rfl ?_
        exact wa2 G M K t p h ht hS hp8 hp hs hh (fun e => by unfold nb at e; rw [← w] at e; first | exact e.1 h32 | exact e.2.1 h38 | exact e.2.2.2.1 (by rw [← sv.1]; exact h49) | exact h65 (by rw [sv.2.1, sp.2.1]; exact e.2.2.2.2.symm))
      · refine a_aload_n (kX1_wouldAgree.at 26 rfl) 0 rfl ?_
        refine a_getR (kX1_wouldAgree.at 27 rfl) fg_X1_9 (iR_C0 ht) ?_
        refine a_iload (kX1_wouldAgree.at 28 rfl) 4 rfl ?_
        refine a_iald (x := M (24 + 8 * t) (M (30 + 8 * t) h)) (kX1_wouldAgree.at 29 rfl) (iA_C0 ht) (by omega) (rfl) ?_
        refine a_iconst (kX1_wouldAgree.at 30 rfl) rfl ?_
        refine a_icmpeq (tgt := 70) (kX1_wouldAgree.at 31 rfl) (by decide) (fun h49 => ?_) (fun h49 => ?_)
        · refine a_iinc (ls' := [(0, vR (4 + t)), (1, vI p), (2, vI h), (3, vI (h + 2)), (4, vI (M (30 + 8 * t) h))]) (kX1_wouldAgree.at 43 rfl) 3 rfl (by decide) (inr (by omega)) rfl ?_
          refine a_goto (tgt := 14) (kX1_wouldAgree.at 44 rfl) (by decide) ?_
          refine AW.loc (ls' := [(0, vR (4 + t)), (1, vI p), (2, vI h), (3, vI (h + 2))]) [0, 1, 2, 3] rfl ?_
          exact wa2 G M K t p h ht hS hp8 hp hs hh (fun e => by unfold nb at e; rw [← w] at e; first | exact e.1 h32 | exact e.2.1 h38 | exact e.2.2.2.1 (by rw [← sv.1]; exact h49) | exact h65 (by rw [sv.2.1, sp.2.1]; exact e.2.2.2.2.symm))
        · refine a_aload_n (kX1_wouldAgree.at 32 rfl) 0 rfl ?_
          refine a_getR (kX1_wouldAgree.at 33 rfl) fg_X1_15 (iR_C1 ht) ?_
          refine a_iload (kX1_wouldAgree.at 34 rfl) 4 rfl ?_
          refine a_iald (x := M (25 + 8 * t) (M (30 + 8 * t) h)) (kX1_wouldAgree.at 35 rfl) (iA_C1 ht) (by omega) (rfl) ?_
          refine a_aload_n (kX1_wouldAgree.at 36 rfl) 0 rfl ?_
          refine a_getR (kX1_wouldAgree.at 37 rfl) fg_X1_15 (iR_C1 ht) ?_
          refine a_iload_n (kX1_wouldAgree.at 38 rfl) 1 rfl ?_
          refine a_iald (x := M (25 + 8 * t) p) (kX1_wouldAgree.at 39 rfl) (iA_C1 ht) (by omega) (rfl) ?_
          refine a_icmpne (tgt := 70) (kX1_wouldAgree.at 40 rfl) (by decide) (fun h65 => ?_) (fun h65 => ?_)
          · refine a_iinc (ls' := [(0, vR (4 + t)), (1, vI p), (2, vI h), (3, vI (h + 2)), (4, vI (M (30 + 8 * t) h))]) (kX1_wouldAgree.at 43 rfl) 3 rfl (by decide) (inr (by omega)) rfl ?_
            refine a_goto (tgt := 14) (kX1_wouldAgree.at 44 rfl) (by decide) ?_
            refine AW.loc (ls' := [(0, vR (4 + t)), (1, vI p), (2, vI h), (3, vI (h + 2))]) [0, 1, 2, 3] rfl ?_
            exact wa2 G M K t p h ht hS hp8 hp hs hh (fun e => by unfold nb at e; rw [← w] at e; first | exact e.1 h32 | exact e.2.1 h38 | exact e.2.2.2.1 (by rw [← sv.1]; exact h49) | exact h65 (by rw [sv.2.1, sp.2.1]; exact e.2.2.2.2.symm))
          · refine a_iconst (kX1_wouldAgree.at 41 rfl) rfl ?_
            exact a_zretE (kX1_wouldAgree.at 42 rfl) (by first | exact Or.inl rfl | exact Or.inr rfl | omega) (⟨(bI_1 ((isDead_iff K p h).mpr (Or.inl (by unfold nb; rw [← w]; exact ⟨h32, h38, hs, by rw [← sv.1]; exact h49, by rw [← sv.2.1, ← sp.2.1]; exact h65.symm⟩)))).symm, rfl⟩)
theorem k_wouldAgree (G : GT) (M K : Mem) (t : Nat) (p h : Int) (ht : t < 2) (hS : SC M t K) (hp8 : 0 ≤ K 44 7 ∧ K 44 7 ≤ 8) (hp : 0 ≤ p ∧ p < K 44 7) (hh : 0 ≤ h ∧ h ≤ 9) : AM G yX1_wouldAgree cX1_wouldAgree 5 (some .boolean) 0 M [vR (4 + t), vI p, vI h] (qI (bI (isDead K p h = true)) M) := by
  refine AM.mk (own := RX1) rfl sv_X1_wouldAgree.1.2.2.2.2.2 (Nat.le_of_ble_eq_true rfl) rfl ?_
  have sp := hS.2.1 p hp.1 hp.2
  refine a_aload_n (kX1_wouldAgree.at 0 rfl) 0 rfl ?_
  refine a_getR (kX1_wouldAgree.at 1 rfl) fg_X1_9 (iR_C0 ht) ?_
  refine a_iload_n (kX1_wouldAgree.at 2 rfl) 1 rfl ?_
  refine a_iald (x := M (24 + 8 * t) p) (kX1_wouldAgree.at 3 rfl) (iA_C0 ht) (by omega) (rfl) ?_
  refine a_iconst (kX1_wouldAgree.at 4 rfl) rfl ?_
  refine a_icmpne (tgt := 12) (kX1_wouldAgree.at 5 rfl) (by decide) (fun h7 => ?_) (fun h7 => ?_)
  · refine a_iload_n (kX1_wouldAgree.at 8 rfl) 2 rfl ?_
    refine a_istore_n (ls' := [(0, vR (4 + t)), (1, vI p), (2, vI h), (3, vI h)]) (kX1_wouldAgree.at 9 rfl) (by decide) rfl ?_
    exact wa1 G M K t p h ht hS hp8 hp (by rw [← sp.1]; exact h7) hh
  · refine a_iconst (kX1_wouldAgree.at 6 rfl) rfl ?_
    exact a_zretE (kX1_wouldAgree.at 7 rfl) (by first | exact Or.inl rfl | exact Or.inr rfl | omega) (⟨(bI_0 (fun e => ((isDead_iff K p h).mp e).elim (fun z => z.2.2.1 (by rw [← sp.1]; exact h7)) (fun z => z.2.2.1 (by rw [← sp.1]; exact h7)))).symm, rfl⟩)
