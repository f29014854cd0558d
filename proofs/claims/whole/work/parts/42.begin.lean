/-! ===== the class: a course begins ===== -/
theorem lives0_at (M : Mem) (hp : 0 ≤ M 44 7) : (∀ k, 0 ≤ k → k < M 44 7 → lives0 M 52 k = M 50 (3 * k + 2) ∧ lives0 M 53 k = M 50 (3 * k + 1) ∧ lives0 M 54 k = 0 ∧ lives0 M 55 k = 0) ∧ lives0 M 44 24 = 0 ∧ lives0 M 44 25 = 0 ∧ lives0 M 44 26 = -1 ∧ lives0 M 44 27 = -1 := by
  refine ⟨?_, rfl, rfl, rfl, rfl⟩
  have key : Fr M (forR 0 (M 44 7) lvI M) ∧ ∀ j, 0 ≤ j → j < M 44 7 → forR 0 (M 44 7) lvI M 52 j = M 50 (3 * j + 2) ∧ forR 0 (M 44 7) lvI M 53 j = M 50 (3 * j + 1) ∧ forR 0 (M 44 7) lvI M 54 j = 0 ∧ forR 0 (M 44 7) lvI M 55 j = 0 := by
    refine forR_inv (lo := 0) (hi := M 44 7) (fun i (K : Mem) => Fr M K ∧ ∀ j, 0 ≤ j → j < i → K 52 j = M 50 (3 * j + 2) ∧ K 53 j = M 50 (3 * j + 1) ∧ K 54 j = 0 ∧ K 55 j = 0) hp ⟨Fr.refl M, fun j a b => by omega⟩ (fun i K a b hK => ⟨hK.1.trans (Fr_lvI i K), fun j c d => ?_⟩)
    have e1 := hK.1 50 (3 * i + 2) (by omega) (by omega)
    have e2 := hK.1 50 (3 * i + 1) (by omega) (by omega)
    show ups (K 52) i (K 50 (3 * i + 2)) j = _ ∧ ups (K 53) i (K 50 (3 * i + 1)) j = _ ∧ ups (K 54) i 0 j = _ ∧ ups (K 55) i 0 j = _
    unfold ups
    by_cases hj : j = i
    · subst hj
      simp [e1, e2]
    · simp only [if_neg hj]
      exact hK.2 j c (by omega)
  exact key.2
/-- what goes into a course is as it should be -/
noncomputable def IR (R : Mem) : Prop := (0 ≤ R 44 7 ∧ R 44 7 ≤ 8) ∧ (∀ k, 0 ≤ k → k < R 44 7 → (0 ≤ R 50 (3 * k + 1) ∧ R 50 (3 * k + 1) ≤ 7) ∧ (0 ≤ R 50 (3 * k + 2) ∧ R 50 (3 * k + 2) ≤ 9)) ∧ ∀ a b, 0 ≤ a → a < R 44 7 → 0 ≤ b → b < R 44 7 → R 50 (3 * a + 2) = R 50 (3 * b + 2) → a = b
theorem movesNow_0 {K : Mem} (hp : 0 ≤ K 44 7) (h : ∀ k, 0 ≤ k → k < K 44 7 → K 54 k = 0) : movesNow K = 0 := by
  unfold movesNow
  exact forR_inv (fun _ x => x = 0) hp rfl (fun k x a b hx => by rw [h k a b, hx]; rfl)
theorem SR_lives0 {R : Mem} (h : IR R) : SR (lives0 R) 0 0 0 := by
  have e7 : lives0 R 44 7 = R 44 7 := (Fr_lives0 R).people
  obtain ⟨l1, l2, l3, l4, l5⟩ := lives0_at R h.1.1
  have em : movesNow (lives0 R) = 0 := movesNow_0 (by rw [e7]; exact h.1.1) (fun k a b => (l1 k a (by rw [e7] at b; exact b)).2.2.1)
  refine ⟨by rw [e7]; exact h.1, fun k a b => ?_, fun a b c d e f g => ?_, ?_, ?_, ?_, ?_⟩
  · rw [e7] at b
    have z := l1 k a b
    have hk := h.2.1 k a b
    rw [z.1, z.2.1, z.2.2.1, z.2.2.2, if_neg (by omega)]
    omega
  · rw [e7] at d f
    rw [(l1 a c d).1, (l1 b e f).1] at g
    exact h.2.2 a b c d e f g
  · rw [l4, em]
    omega
  · rw [l2]; omega
  · rw [l3]; omega
  · rw [em]; omega
/-- loaded: course t is to run what R holds -/
noncomputable def LD (M : Mem) (t : Nat) (R : Mem) : Prop := M (4 + t) 8 = R 44 7 ∧ (∀ p, 0 ≤ p → p < R 44 7 → M (24 + 8 * t) p = R 50 (3 * p) ∧ M (25 + 8 * t) p = R 50 (3 * p + 1) ∧ M (26 + 8 * t) p = R 50 (3 * p + 2)) ∧ (∀ q, 0 ≤ q → q ≤ 15 → M (27 + 8 * t) q = plW R q)
noncomputable def wiF (M : Mem) (t : Nat) (i : Int) : Int → Int → Int := fun k w => if M (26 + 8 * t) k = i - 1 then k else w
set_option maxHeartbeats 4000000 in
set_option maxRecDepth 100000 in
theorem l_begin (G : GT) (M : Mem) (t : Nat) (P : Option AV → Mem → Prop) (ht : t < 2) (hp8 : 0 ≤ M (4 + t) 8 ∧ M (4 + t) 8 ≤ 8) (hh : ∀ p, 0 ≤ p → p < M (4 + t) 8 → 0 ≤ M (26 + 8 * t) p ∧ M (26 + 8 * t) p ≤ 9) (hw : ∀ i, 0 ≤ i → i ≤ 11 → M (30 + 8 * t) i = -1) (hlohi : (0 : Int) ≤ (M (4 + t) 8)) (kk : ∀ (N : Mem), (∀ i, 0 ≤ i → i ≤ 11 → N (30 + 8 * t) i = forR 0 (M (4 + t) 8) (wiF M t i) (-1)) → (∀ p, 0 ≤ p → p < (M (4 + t) 8) → N (28 + 8 * t) p = 0 ∧ N (29 + 8 * t) p = 0) → (∀ (c : Nat) (x : Int), c ≠ 28 + 8 * t → c ≠ 29 + 8 * t → c ≠ 30 + 8 * t → N c x = M c x) → AW G RX1 cX1_begin 2 none (XM G 1 P) 82 [(0, vR (4 + t)), (1, vI (M (4 + t) 8))] [] N) : AW G RX1 cX1_begin 2 none (XM G 1 P) 40 [(0, vR (4 + t)), (1, vI 0)] [] M := by
  have key : ∀ (nn : Nat) (j : Int)  (N : Mem), (0 : Int) ≤ j → j ≤ (M (4 + t) 8) → (∀ i, 0 ≤ i → i ≤ 11 → N (30 + 8 * t) i = forR 0 j (wiF M t i) (-1)) → (∀ p, 0 ≤ p → p < j → N (28 + 8 * t) p = 0 ∧ N (29 + 8 * t) p = 0) → (∀ (c : Nat) (x : Int), c ≠ 28 + 8 * t → c ≠ 29 + 8 * t → c ≠ 30 + 8 * t → N c x = M c x) → (M (4 + t) 8) - j < nn → AW G RX1 cX1_begin 2 none (XM G 1 P) 40 [(0, vR (4 + t)), (1, vI j)] [] N := by
    intro nn
    induction nn with
    | zero => intro j N hk0 hk1  hV hZ hC hn; omega
    | succ nn ih =>
      intro j N hk0 hk1  hV hZ hC hn
      have e8 := hC (4 + t) 8 (by omega) (by omega) (by omega)
      refine a_iload_n (kX1_begin.at 24 rfl) 1 rfl ?_
      refine a_aload_n (kX1_begin.at 25 rfl) 0 rfl ?_
      refine a_getI (x := N (4 + t) 8) (kX1_begin.at 26 rfl) fg_X1_48 (iI_C8 ht) (rfl) ?_
      refine a_icmpge (tgt := 82) (kX1_begin.at 27 rfl) (by decide) (fun h45 => ?_) (fun h45 => ?_)
      · obtain rfl : j = M (4 + t) 8 := by omega
        exact kk N hV hZ hC
      · have hhj := hh j hk0 (by omega)
        have e26 := hC (26 + 8 * t) j (by omega) (by omega) (by omega)
        refine a_aload_n (kX1_begin.at 28 rfl) 0 rfl ?_
        refine a_getR (kX1_begin.at 29 rfl) fg_X1_30 (iR_C6 ht) ?_
        refine a_aload_n (kX1_begin.at 30 rfl) 0 rfl ?_
        refine a_getR (kX1_begin.at 31 rfl) fg_X1_18 (iR_C2 ht) ?_
        refine a_iload_n (kX1_begin.at 32 rfl) 1 rfl ?_
        refine a_iald (x := N (26 + 8 * t) j) (kX1_begin.at 33 rfl) (iA_C2 ht) (by omega) (rfl) ?_
        refine a_iconst (kX1_begin.at 34 rfl) rfl ?_
        refine a_iadd (kX1_begin.at 35 rfl) (inr (by omega)) ?_
        refine a_iload_n (kX1_begin.at 36 rfl) 1 rfl ?_
        refine a_iast (kX1_begin.at 37 rfl) (iA_C6 ht) (by omega) ?_
        refine a_aload_n (kX1_begin.at 38 rfl) 0 rfl ?_
        refine a_getR (kX1_begin.at 39 rfl) fg_X1_24 (iR_C4 ht) ?_
        refine a_iload_n (kX1_begin.at 40 rfl) 1 rfl ?_
        refine a_iconst (kX1_begin.at 41 rfl) rfl ?_
        refine a_iast (kX1_begin.at 42 rfl) (iA_C4 ht) (by omega) ?_
        refine a_aload_n (kX1_begin.at 43 rfl) 0 rfl ?_
        refine a_getR (kX1_begin.at 44 rfl) fg_X1_27 (iR_C5 ht) ?_
        refine a_iload_n (kX1_begin.at 45 rfl) 1 rfl ?_
        refine a_iconst (kX1_begin.at 46 rfl) rfl ?_
        refine a_iast (kX1_begin.at 47 rfl) (iA_C5 ht) (by omega) ?_
        have mst : ∀ i, 0 ≤ i → i ≤ 11 → ((upm (upm (upm N (30 + 8 * t) ((N (26 + 8 * t) j) + 1) j) (28 + 8 * t) j 0) (29 + 8 * t) j 0)) (30 + 8 * t) i = forR 0 (j + 1) (wiF M t i) (-1) := fun i a b => by
          rw [forR_succ hk0, ← hV i a b, rd_ne (c := 30 + 8 * t) (k := 29 + 8 * t) (by omega), rd_ne (c := 30 + 8 * t) (k := 28 + 8 * t) (by omega), upm_same]
          unfold ups wiF
          by_cases e : i = N (26 + 8 * t) j + 1
          · rw [if_pos e, if_pos (by omega)]
          · rw [if_neg e, if_neg (by omega)]
        have zst : ∀ p, 0 ≤ p → p < j + 1 → ((upm (upm (upm N (30 + 8 * t) ((N (26 + 8 * t) j) + 1) j) (28 + 8 * t) j 0) (29 + 8 * t) j 0)) (28 + 8 * t) p = 0 ∧ ((upm (upm (upm N (30 + 8 * t) ((N (26 + 8 * t) j) + 1) j) (28 + 8 * t) j 0) (29 + 8 * t) j 0)) (29 + 8 * t) p = 0 := fun p a b => by
          rw [rd_ne (c := 28 + 8 * t) (k := 29 + 8 * t) (by omega), upm_same, upm_same]
          unfold ups
          by_cases e : p = j
          · rw [if_pos e, if_pos e]; exact ⟨rfl, rfl⟩
          · rw [if_neg e, if_neg e, rd_ne (c := 28 + 8 * t) (k := 30 + 8 * t) (by omega), rd_ne (c := 29 + 8 * t) (k := 28 + 8 * t) (by omega), rd_ne (c := 29 + 8 * t) (k := 30 + 8 * t) (by omega)]
            exact hZ p a (by omega)
        refine a_iinc (ls' := [(0, vR (4 + t)), (1, vI (j + 1))]) (kX1_begin.at 48 rfl) 1 rfl (by decide) (inr (by omega)) rfl ?_
        refine a_goto (tgt := 40) (kX1_begin.at 49 rfl) (by decide) ?_
        exact ih ((j + 1)) ((upm (upm (upm N (30 + 8 * t) ((N (26 + 8 * t) j) + 1) j) (28 + 8 * t) j 0) (29 + 8 * t) j 0)) (by omega) (by omega) (mst) (zst) (fun c x z1 z2 z3 => by rw [rd_ne z2, rd_ne z1, rd_ne z3]; exact hC c x z1 z2 z3) (by omega)
  exact key ((M (4 + t) 8) - (0) + 1 : Int).toNat (0) M (Int.le_refl _) hlohi  (fun i a b => by rw [forR_nil (Int.le_refl _)]; exact hw i a b) (fun p a b => by omega) (fun _ _ _ _ _ => rfl) (by omega)
theorem isIn0 : ∀ p : Fin 8, ¬ isIn 0 (p.val : Int) = true := by decide +kernel
theorem SC_begin {M N R : Mem} {t : Nat} (hL : LD M t R) (hI : IR R) (h30 : ∀ i, 0 ≤ i → i ≤ 11 → N (30 + 8 * t) i = forR 0 (R 44 7) (wiF M t i) (-1)) (hZ : ∀ p, 0 ≤ p → p < R 44 7 → N (28 + 8 * t) p = 0 ∧ N (29 + 8 * t) p = 0) (hf : N (4 + t) 8 = M (4 + t) 8 ∧ N (4 + t) 9 = 0 ∧ N (4 + t) 10 = 0 ∧ N (4 + t) 11 = 0 ∧ N (4 + t) 12 = -1 ∧ N (4 + t) 13 = -1 ∧ N (4 + t) 14 = 0) (hc : ∀ p, N (24 + 8 * t) p = M (24 + 8 * t) p ∧ N (25 + 8 * t) p = M (25 + 8 * t) p ∧ N (26 + 8 * t) p = M (26 + 8 * t) p) : SC N t (lives0 R) := by
  have e7 : lives0 R 44 7 = R 44 7 := (Fr_lives0 R).people
  obtain ⟨l1, l2, l3, l4, l5⟩ := lives0_at R hI.1.1
  have em : movesNow (lives0 R) = 0 := movesNow_0 (by rw [e7]; exact hI.1.1) (fun k a b => (l1 k a (by rw [e7] at b; exact b)).2.2.1)
  obtain ⟨f1, f2, f3, f4, f5, f6, f7⟩ := hf
  refine ⟨by rw [f1, e7]; exact hL.1, fun p a b => ?_, fun i a b => ?_, ⟨by rw [f2, em], by rw [f3, l2], by rw [f4, l3], by rw [f5, l4], by rw [f6, l5]⟩, by rw [f7]; omega, fun p a b => ?_⟩
  · rw [e7] at b
    have z := l1 p a b
    have y := hL.2.1 p a b
    rw [(hc p).1, (hc p).2.1, (hc p).2.2, (hZ p a b).1, (hZ p a b).2, z.1, z.2.1, z.2.2.1, z.2.2.2]
    exact ⟨y.1.trans ((Fr_lives0 R) 50 _ (by omega) (by omega)).symm, y.2.1, y.2.2, rfl, rfl⟩
  · rw [h30 i a b]
    unfold whoIn
    rw [e7]
    refine forR_cong fun k w c d => ?_
    unfold wiF
    rw [(hL.2.1 k c d).2.2, (l1 k c d).1]
  · rw [f7, e7]
    have hz := isIn0 ⟨p.toNat, by omega⟩
    simp only [] at hz
    rw [show ((p.toNat : Nat) : Int) = p by omega] at hz
    refine ⟨fun z => absurd z hz, fun z => ?_⟩
    have := (l1 p a z.1).2.2.1
    omega
