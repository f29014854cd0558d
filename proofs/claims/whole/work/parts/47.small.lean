/-! ===== the class: seen, choices, rows, triples, text's leaves ===== -/
noncomputable def snP (K : Mem) (i : Int) : Prop := (0 ≤ K 60 (3 * i + 1) ∧ K 60 (3 * i + 1) ≤ K 44 7 - 1) ∧ K 56 (8 * K 60 (3 * i) + K 60 (3 * i + 1)) = K 60 (3 * i + 2)
theorem seen_iff {K : Mem} (hn : 0 ≤ K 44 28) : (seenI K ≠ 0 ↔ ∀ i, 0 ≤ i → i < K 44 28 → snP K i) := by
  have key : (seenI K = 1 ∧ ∀ i, 0 ≤ i → i < K 44 28 → snP K i) ∨ (seenI K = 0 ∧ ∃ i, 0 ≤ i ∧ i < K 44 28 ∧ ¬ snP K i) := by
    unfold seenI
    refine forR_inv (lo := 0) (hi := K 44 28) (fun j x => (x = 1 ∧ ∀ i, 0 ≤ i → i < j → snP K i) ∨ (x = 0 ∧ ∃ i, 0 ≤ i ∧ i < j ∧ ¬ snP K i)) hn (Or.inl ⟨rfl, fun i a b => by omega⟩) (fun j x a b h => ?_)
    unfold snF
    rcases h with h | h
    · by_cases e : snP K j
      · rw [if_pos ⟨by omega, e⟩]
        exact Or.inl ⟨rfl, fun i c d => if z : i = j then (by rw [z]; exact e) else h.2 i c (by omega)⟩
      · rw [if_neg (fun z => e z.2)]
        exact Or.inr ⟨rfl, j, a, by omega, e⟩
    · obtain ⟨h1, i, c, d, e⟩ := h
      rw [if_neg (fun z => z.1 h1)]
      exact Or.inr ⟨rfl, i, c, by omega, e⟩
  rcases key with h | h
  · exact ⟨fun _ => h.2, fun _ => by omega⟩
  · obtain ⟨h1, i, c, d, e⟩ := h
    exact ⟨fun z => absurd h1 z, fun z => absurd (z i c d) e⟩
/-- sights of the class, as the reference has them -/
noncomputable def QK (M K : Mem) : Prop := M 3 3 = K 44 28 ∧ (0 ≤ K 44 28 ∧ K 44 28 ≤ 8) ∧ ∀ i, 0 ≤ i → i < K 44 28 → (M 21 i = K 60 (3 * i) ∧ M 22 i = K 60 (3 * i + 1) ∧ M 23 i = K 60 (3 * i + 2)) ∧ (0 ≤ K 60 (3 * i) ∧ K 60 (3 * i) ≤ 15) ∧ (0 ≤ K 60 (3 * i + 1) ∧ K 60 (3 * i + 1) ≤ 7)
set_option maxHeartbeats 4000000 in
set_option maxRecDepth 100000 in
theorem l_shows (G : GT) (M K : Mem) (t : Nat) (ht : t < 2) (h8 : M (4 + t) 8 = K 44 7) (hp : K 44 7 ≤ 8) (hT : TR M t K 16) (hQ : QK M K) (hlohi : (0 : Int) ≤ (M 3 3)) (kk : (∀ j, 0 ≤ j → j < (M 3 3) → snP K j) → AW G RX1 cX1_showsAll 3 (some .boolean) (XM G 1 (qI (bI (seenI K ≠ 0)) M)) 56 [(0, vR (4 + t)), (1, vR 3), (2, vI (M 3 3))] [] M) : AW G RX1 cX1_showsAll 3 (some .boolean) (XM G 1 (qI (bI (seenI K ≠ 0)) M)) 2 [(0, vR (4 + t)), (1, vR 3), (2, vI 0)] [] M := by
  have key : ∀ (nn : Nat) (i : Int) , (0 : Int) ≤ i → i ≤ (M 3 3) → (∀ j, 0 ≤ j → j < i → snP K j) → (M 3 3) - i < nn → AW G RX1 cX1_showsAll 3 (some .boolean) (XM G 1 (qI (bI (seenI K ≠ 0)) M)) 2 [(0, vR (4 + t)), (1, vR 3), (2, vI i)] [] M := by
    intro nn
    induction nn with
    | zero => intro i  hk0 hk1  hI hn; omega
    | succ nn ih =>
      intro i  hk0 hk1  hI hn
      have q0 := hQ.1
      have q1 := hQ.2.1
      refine a_iload_n (kX1_showsAll.at 2 rfl) 2 rfl ?_
      refine a_aload_n (kX1_showsAll.at 3 rfl) 1 rfl ?_
      refine a_getI (x := M 3 3) (kX1_showsAll.at 4 rfl) fg_X1_58 ii_3_3 (rfl) ?_
      refine a_icmpge (tgt := 56) (kX1_showsAll.at 5 rfl) (by decide) (fun h7 => ?_) (fun h7 => ?_)
      · obtain rfl : i = M 3 3 := by omega
        exact kk hI
      · have qi := hQ.2.2 i hk0 (by omega)
        refine a_aload_n (kX1_showsAll.at 6 rfl) 1 rfl ?_
        refine a_getR (kX1_showsAll.at 7 rfl) fg_X1_70 ir_3_1 ?_
        refine a_iload_n (kX1_showsAll.at 8 rfl) 2 rfl ?_
        refine a_iald (x := M 22 i) (kX1_showsAll.at 9 rfl) (ia_22) (by omega) (rfl) ?_
        refine a_aload_n (kX1_showsAll.at 10 rfl) 0 rfl ?_
        refine a_getI (x := M (4 + t) 8) (kX1_showsAll.at 11 rfl) fg_X1_48 (iI_C8 ht) (rfl) ?_
        refine a_icmpge (tgt := 48) (kX1_showsAll.at 12 rfl) (by decide) (fun h20 => ?_) (fun h20 => ?_)
        · refine a_iconst (kX1_showsAll.at 28 rfl) rfl ?_
          exact a_zretE (kX1_showsAll.at 29 rfl) (by first | exact Or.inl rfl | exact Or.inr rfl | omega) (⟨(bI_0 (fun z => (seen_iff q1.1).mp z i hk0 (by omega) |> fun s => by first | (have s1 := s.1; omega) | exact h45 (by have s2 := s.2; rw [← qi.1.1, ← qi.1.2.1, ← qi.1.2.2] at s2; exact s2))).symm, rfl⟩)
        · refine a_aload_n (kX1_showsAll.at 13 rfl) 0 rfl ?_
          refine a_aload_n (kX1_showsAll.at 14 rfl) 1 rfl ?_
          refine a_getR (kX1_showsAll.at 15 rfl) fg_X1_67 ir_3_0 ?_
          refine a_iload_n (kX1_showsAll.at 16 rfl) 2 rfl ?_
          refine a_iald (x := M 21 i) (kX1_showsAll.at 17 rfl) (ia_21) (by omega) (rfl) ?_
          refine a_aload_n (kX1_showsAll.at 18 rfl) 1 rfl ?_
          refine a_getR (kX1_showsAll.at 19 rfl) fg_X1_70 ir_3_1 ?_
          refine a_iload_n (kX1_showsAll.at 20 rfl) 2 rfl ?_
          refine a_iald (x := M 22 i) (kX1_showsAll.at 21 rfl) (ia_22) (by omega) (rfl) ?_
          refine AW.callV (as := [vI (M 21 i), vI (M 22 i)]) (st := []) (kX1_showsAll.at 22 rfl) ml_X1_128 sv_X1_homeBehind (k := (4 + t)) (iO_C ht) rfl rfl ⟨Nat.le_of_ble_eq_true rfl, Nat.le_of_ble_eq_true rfl⟩ ⟨Nat.le_refl _, Nat.le_refl _⟩ rfl rfl (Nat.le_of_ble_eq_true rfl) (k_homeBehind G M K t (M 21 i) (M 22 i) ht hT hp (by omega) (by omega)) (kIE ?_)
          refine a_aload_n (kX1_showsAll.at 23 rfl) 1 rfl ?_
          refine a_getR (kX1_showsAll.at 24 rfl) fg_X1_73 ir_3_2 ?_
          refine a_iload_n (kX1_showsAll.at 25 rfl) 2 rfl ?_
          refine a_iald (x := M 23 i) (kX1_showsAll.at 26 rfl) (ia_23) (by omega) (rfl) ?_
          refine a_icmpeq (tgt := 50) (kX1_showsAll.at 27 rfl) (by decide) (fun h45 => ?_) (fun h45 => ?_)
          · refine a_iinc (ls' := [(0, vR (4 + t)), (1, vR 3), (2, vI (i + 1))]) (kX1_showsAll.at 30 rfl) 2 rfl (by decide) (inr (by omega)) rfl ?_
            refine a_goto (tgt := 2) (kX1_showsAll.at 31 rfl) (by decide) ?_
            exact ih ((i + 1))  (by omega) (by omega) (fun j a b => if z : j = i then (by rw [z]; exact ⟨by omega, by rw [← qi.1.1, ← qi.1.2.1, ← qi.1.2.2]; exact h45⟩) else hI j a (by omega)) (by omega)
          · refine a_iconst (kX1_showsAll.at 28 rfl) rfl ?_
            exact a_zretE (kX1_showsAll.at 29 rfl) (by first | exact Or.inl rfl | exact Or.inr rfl | omega) (⟨(bI_0 (fun z => (seen_iff q1.1).mp z i hk0 (by omega) |> fun s => by first | (have s1 := s.1; omega) | exact h45 (by have s2 := s.2; rw [← qi.1.1, ← qi.1.2.1, ← qi.1.2.2] at s2; exact s2))).symm, rfl⟩)
  exact key ((M 3 3) - (0) + 1 : Int).toNat (0)  (Int.le_refl _) hlohi  (fun j a b => by omega) (by omega)
theorem k_showsAll (G : GT) (M K : Mem) (t : Nat) (ht : t < 2) (h8 : M (4 + t) 8 = K 44 7) (hp : K 44 7 ≤ 8) (hT : TR M t K 16) (hQ : QK M K) : AM G yX1_showsAll cX1_showsAll 3 (some .boolean) 1 M [vR (4 + t), vR 3] (qI (bI (seenI K ≠ 0)) M) := by
  refine AM.mk (own := RX1) rfl sv_X1_showsAll.1.2.2.2.2.2 (Nat.le_of_ble_eq_true rfl) rfl ?_
  have q0 := hQ.1
  have q1 := hQ.2.1
  refine a_iconst (kX1_showsAll.at 0 rfl) rfl ?_
  refine a_istore_n (ls' := [(0, vR (4 + t)), (1, vR 3), (2, vI 0)]) (kX1_showsAll.at 1 rfl) (by decide) rfl ?_
  refine l_shows G M K t ht h8 hp hT hQ (by omega) ?_
  intro hI
  show AW _ _ _ _ _ _ 56 [(0, vR (4 + t)), (1, vR 3), (2, vI (M 3 3))] [] M
  refine a_iconst (kX1_showsAll.at 32 rfl) rfl ?_
  exact a_zretE (kX1_showsAll.at 33 rfl) (by first | exact Or.inl rfl | exact Or.inr rfl | omega) (⟨(bI_1 ((seen_iff q1.1).mpr (fun i a b => hI i a (by omega)))).symm, rfl⟩)
theorem k_clear (G : GT) (M : Mem) : AM G yX0_clear cX0_clear 1 none 0 M [vR 6] (qV (upm (upm M 6 0 (-1)) 6 1 0)) := by
  refine AM.mk (own := RX0) rfl sv_X0_clear.1.2.2.2.2.2 (Nat.le_of_ble_eq_true rfl) rfl ?_
  refine a_aload_n (kX0_clear.at 0 rfl) 0 rfl ?_
  refine a_iconst (kX0_clear.at 1 rfl) rfl ?_
  refine a_putI (j := 0) (kX0_clear.at 2 rfl) fp_X0_9 (ii_6_0) rfl ?_
  refine a_aload_n (kX0_clear.at 3 rfl) 0 rfl ?_
  refine a_iconst (kX0_clear.at 4 rfl) rfl ?_
  refine a_putI (j := 1) (kX0_clear.at 5 rfl) fp_X0_15 (ii_6_1) rfl ?_
  exact a_vretE (kX0_clear.at 6 rfl) (rfl)
theorem k_offer (G : GT) (M : Mem) (c m : Int) : AM G yX0_offer cX0_offer 3 none 0 M [vR 6, vI c, vI m] (qV (if M 6 0 = -1 ∨ m < M 6 1 then upm (upm M 6 0 c) 6 1 m else M)) := by
  refine AM.mk (own := RX0) rfl sv_X0_offer.1.2.2.2.2.2 (Nat.le_of_ble_eq_true rfl) rfl ?_
  refine a_aload_n (kX0_offer.at 0 rfl) 0 rfl ?_
  refine a_getI (x := M 6 0) (kX0_offer.at 1 rfl) fg_X0_9 ii_6_0 (rfl) ?_
  refine a_iconst (kX0_offer.at 2 rfl) rfl ?_
  refine a_icmpeq (tgt := 16) (kX0_offer.at 3 rfl) (by decide) (fun h5 => ?_) (fun h5 => ?_)
  · refine a_aload_n (kX0_offer.at 8 rfl) 0 rfl ?_
    refine a_iload_n (kX0_offer.at 9 rfl) 1 rfl ?_
    refine a_putI (j := 0) (kX0_offer.at 10 rfl) fp_X0_9 (ii_6_0) rfl ?_
    refine a_aload_n (kX0_offer.at 11 rfl) 0 rfl ?_
    refine a_iload_n (kX0_offer.at 12 rfl) 2 rfl ?_
    refine a_putI (j := 1) (kX0_offer.at 13 rfl) fp_X0_15 (ii_6_1) rfl ?_
    exact a_vretE (kX0_offer.at 14 rfl) (by first | exact (if_pos (by omega)).symm | exact (if_neg (by omega)).symm)
  · refine a_iload_n (kX0_offer.at 4 rfl) 2 rfl ?_
    refine a_aload_n (kX0_offer.at 5 rfl) 0 rfl ?_
    refine a_getI (x := M 6 1) (kX0_offer.at 6 rfl) fg_X0_15 ii_6_1 (rfl) ?_
    refine a_icmpge (tgt := 26) (kX0_offer.at 7 rfl) (by decide) (fun h13 => ?_) (fun h13 => ?_)
    · exact a_vretE (kX0_offer.at 14 rfl) (by first | exact (if_pos (by omega)).symm | exact (if_neg (by omega)).symm)
    · refine a_aload_n (kX0_offer.at 8 rfl) 0 rfl ?_
      refine a_iload_n (kX0_offer.at 9 rfl) 1 rfl ?_
      refine a_putI (j := 0) (kX0_offer.at 10 rfl) fp_X0_9 (ii_6_0) rfl ?_
      refine a_aload_n (kX0_offer.at 11 rfl) 0 rfl ?_
      refine a_iload_n (kX0_offer.at 12 rfl) 2 rfl ?_
      refine a_putI (j := 1) (kX0_offer.at 13 rfl) fp_X0_15 (ii_6_1) rfl ?_
      exact a_vretE (kX0_offer.at 14 rfl) (by first | exact (if_pos (by omega)).symm | exact (if_neg (by omega)).symm)
theorem k_append (G : GT) (M : Mem) (t : Nat) (a b c : Int) (ht : t < 2) (hn : 0 ≤ M (2 + t) 3 ∧ M (2 + t) 3 < 8) : AM G yX4_append cX4_append 4 none 0 M [vR (2 + t), vI a, vI b, vI c] (qV (upm (upm (upm (upm M (18 + 3 * t) (M (2 + t) 3) a) (19 + 3 * t) (M (2 + t) 3) b) (20 + 3 * t) (M (2 + t) 3) c) (2 + t) 3 (M (2 + t) 3 + 1))) := by
  refine AM.mk (own := RX4) rfl sv_X4_append.1.2.2.2.2.2 (Nat.le_of_ble_eq_true rfl) rfl ?_
  refine a_aload_n (kX4_append.at 0 rfl) 0 rfl ?_
  refine a_getI (x := M (2 + t) 3) (kX4_append.at 1 rfl) fg_X4_21 (iI_T3 ht) (rfl) ?_
  refine a_bipush (kX4_append.at 2 rfl) rfl rfl ?_
  refine a_icmpge (tgt := 49) (kX4_append.at 3 rfl) (by decide) (fun h6 => ?_) (fun h6 => ?_)
  · exact a_vretE (kX4_append.at 28 rfl) (by first | (exfalso; omega) | rfl)
  · refine a_aload_n (kX4_append.at 4 rfl) 0 rfl ?_
    refine a_getR (kX4_append.at 5 rfl) fg_X4_9 (iR_T0 ht) ?_
    refine a_aload_n (kX4_append.at 6 rfl) 0 rfl ?_
    refine a_getI (x := M (2 + t) 3) (kX4_append.at 7 rfl) fg_X4_21 (iI_T3 ht) (rfl) ?_
    refine a_iload_n (kX4_append.at 8 rfl) 1 rfl ?_
    refine a_iast (kX4_append.at 9 rfl) (iA_T0 ht) (by omega) ?_
    refine a_aload_n (kX4_append.at 10 rfl) 0 rfl ?_
    refine a_getR (kX4_append.at 11 rfl) fg_X4_15 (iR_T1 ht) ?_
    refine a_aload_n (kX4_append.at 12 rfl) 0 rfl ?_
    refine a_getI (x := M (2 + t) 3) (kX4_append.at 13 rfl) fg_X4_21 (iI_T3 ht) (rd_ne (by omega)) ?_
    refine a_iload_n (kX4_append.at 14 rfl) 2 rfl ?_
    refine a_iast (kX4_append.at 15 rfl) (iA_T1 ht) (by omega) ?_
    refine a_aload_n (kX4_append.at 16 rfl) 0 rfl ?_
    refine a_getR (kX4_append.at 17 rfl) fg_X4_18 (iR_T2 ht) ?_
    refine a_aload_n (kX4_append.at 18 rfl) 0 rfl ?_
    refine a_getI (x := M (2 + t) 3) (kX4_append.at 19 rfl) fg_X4_21 (iI_T3 ht) ((rd_ne (by omega)).trans (rd_ne (by omega))) ?_
    refine a_iload_n (kX4_append.at 20 rfl) 3 rfl ?_
    refine a_iast (kX4_append.at 21 rfl) (iA_T2 ht) (by omega) ?_
    refine a_aload_n (kX4_append.at 22 rfl) 0 rfl ?_
    refine a_dup (kX4_append.at 23 rfl) rfl ?_
    refine a_getI (x := M (2 + t) 3) (kX4_append.at 24 rfl) fg_X4_21 (iI_T3 ht) ((rd_ne (by omega)).trans ((rd_ne (by omega)).trans (rd_ne (by omega)))) ?_
    refine a_iconst (kX4_append.at 25 rfl) rfl ?_
    refine a_iadd (kX4_append.at 26 rfl) (inr (by omega)) ?_
    refine a_putI (j := 3) (kX4_append.at 27 rfl) fp_X4_21 (iI_T3 ht) rfl ?_
    exact a_vretE (kX4_append.at 28 rfl) (by first | (exfalso; omega) | rfl)
theorem k_troubleWith (G : GT) (M : Mem) (s : Nat) (f i : Int) (hs : s < 4) : AM G yX2_troubleWith cX2_troubleWith 3 (some .int) 1 M [vR (10 + s), vI f, vI i] (qI (if M (10 + s) 1 = -1 then 1 else if M (10 + s) 1 ≠ f then 3 else if 0 ≤ i ∧ i < M (10 + s) 2 then 0 else 2) M) := by
  refine AM.mk (own := RX2) rfl sv_X2_troubleWith.1.2.2.2.2.2 (Nat.le_of_ble_eq_true rfl) rfl ?_
  refine a_aload_n (kX2_troubleWith.at 0 rfl) 0 rfl ?_
  refine a_getI (x := M (10 + s) 1) (kX2_troubleWith.at 1 rfl) fg_X2_15 (iI_W1 hs) (rfl) ?_
  refine a_iconst (kX2_troubleWith.at 2 rfl) rfl ?_
  refine a_icmpne (tgt := 10) (kX2_troubleWith.at 3 rfl) (by decide) (fun h5 => ?_) (fun h5 => ?_)
  · refine a_aload_n (kX2_troubleWith.at 6 rfl) 0 rfl ?_
    refine a_getI (x := M (10 + s) 1) (kX2_troubleWith.at 7 rfl) fg_X2_15 (iI_W1 hs) (rfl) ?_
    refine a_iload_n (kX2_troubleWith.at 8 rfl) 1 rfl ?_
    refine a_icmpeq (tgt := 20) (kX2_troubleWith.at 9 rfl) (by decide) (fun h15 => ?_) (fun h15 => ?_)
    · refine a_iload_n (kX2_troubleWith.at 12 rfl) 2 rfl ?_
      refine a_aload_n (kX2_troubleWith.at 13 rfl) 0 rfl ?_
      refine a_getI (x := M (10 + s) 2) (kX2_troubleWith.at 14 rfl) fg_X2_19 (iI_W2 hs) (rfl) ?_
      refine AW.callSN (as := [vI i, vI (M (10 + s) 2)]) (st := []) (kX2_troubleWith.at 15 rfl) NW.c ss_X5_isBelow ⟨Nat.le_of_ble_eq_true rfl, Nat.le_of_ble_eq_true rfl⟩ ⟨Nat.le_refl _, Nat.le_refl _⟩ rfl rfl (Nat.le_of_ble_eq_true rfl) (k_isBelow G M i (M (10 + s) 2)) (kIE ?_)
      refine a_ifeqB (tgt := 35) (kX2_troubleWith.at 16 rfl) (by decide) (fun h28 => ?_) (fun h28 => ?_)
      · refine a_iconst (kX2_troubleWith.at 19 rfl) rfl ?_
        exact a_iretE (kX2_troubleWith.at 20 rfl) (⟨by first | rw [if_pos h5] | rw [if_neg h5, if_pos h15] | rw [if_neg h5, if_neg (by omega), if_pos h28] | rw [if_neg h5, if_neg (by omega), if_neg h28], rfl⟩)
      · refine a_iconst (kX2_troubleWith.at 17 rfl) rfl ?_
        refine a_goto (tgt := 36) (kX2_troubleWith.at 18 rfl) (by decide) ?_
        exact a_iretE (kX2_troubleWith.at 20 rfl) (⟨by first | rw [if_pos h5] | rw [if_neg h5, if_pos h15] | rw [if_neg h5, if_neg (by omega), if_pos h28] | rw [if_neg h5, if_neg (by omega), if_neg h28], rfl⟩)
    · refine a_iconst (kX2_troubleWith.at 10 rfl) rfl ?_
      exact a_iretE (kX2_troubleWith.at 11 rfl) (⟨by first | rw [if_pos h5] | rw [if_neg h5, if_pos h15] | rw [if_neg h5, if_neg (by omega), if_pos h28] | rw [if_neg h5, if_neg (by omega), if_neg h28], rfl⟩)
  · refine a_iconst (kX2_troubleWith.at 4 rfl) rfl ?_
    exact a_iretE (kX2_troubleWith.at 5 rfl) (⟨by first | rw [if_pos h5] | rw [if_neg h5, if_pos h15] | rw [if_neg h5, if_neg (by omega), if_pos h28] | rw [if_neg h5, if_neg (by omega), if_neg h28], rfl⟩)
theorem k_hasStretch (G : GT) (M : Mem) (s : Nat) (a n : Int) (hs : s < 4) (hz : 0 ≤ M (10 + s) 2 ∧ M (10 + s) 2 ≤ 60) : AM G yX2_hasStretch cX2_hasStretch 3 (some .boolean) 0 M [vR (10 + s), vI a, vI n] (qI (bI (0 ≤ a ∧ 0 ≤ n ∧ a ≤ M (10 + s) 2 - n)) M) := by
  refine AM.mk (own := RX2) rfl sv_X2_hasStretch.1.2.2.2.2.2 (Nat.le_of_ble_eq_true rfl) rfl ?_
  refine AW.facts fun _ hl _ => ?_
  have hn : inI n := hl (2, vI n) (List.Mem.tail _ (List.Mem.tail _ (List.Mem.head _)))
  have hn2 := hn.2
  refine a_iload_n (kX2_hasStretch.at 0 rfl) 1 rfl ?_
  refine a_iflt (tgt := 22) (kX2_hasStretch.at 1 rfl) (by decide) (fun h1 => ?_) (fun h1 => ?_)
  · refine a_iconst (kX2_hasStretch.at 12 rfl) rfl ?_
    exact a_zretE (kX2_hasStretch.at 13 rfl) (by first | exact Or.inl rfl | exact Or.inr rfl | omega) (⟨by first | exact (bI_1 (by omega)).symm | exact (bI_0 (by omega)).symm, rfl⟩)
  · refine a_iload_n (kX2_hasStretch.at 2 rfl) 2 rfl ?_
    refine a_iflt (tgt := 22) (kX2_hasStretch.at 3 rfl) (by decide) (fun h5 => ?_) (fun h5 => ?_)
    · refine a_iconst (kX2_hasStretch.at 12 rfl) rfl ?_
      exact a_zretE (kX2_hasStretch.at 13 rfl) (by first | exact Or.inl rfl | exact Or.inr rfl | omega) (⟨by first | exact (bI_1 (by omega)).symm | exact (bI_0 (by omega)).symm, rfl⟩)
    · refine a_iload_n (kX2_hasStretch.at 4 rfl) 1 rfl ?_
      refine a_aload_n (kX2_hasStretch.at 5 rfl) 0 rfl ?_
      refine a_getI (x := M (10 + s) 2) (kX2_hasStretch.at 6 rfl) fg_X2_19 (iI_W2 hs) (rfl) ?_
      refine a_iload_n (kX2_hasStretch.at 7 rfl) 2 rfl ?_
      refine a_isub (kX2_hasStretch.at 8 rfl) (inr (by omega)) ?_
      refine a_icmpgt (tgt := 22) (kX2_hasStretch.at 9 rfl) (by decide) (fun h15 => ?_) (fun h15 => ?_)
      · refine a_iconst (kX2_hasStretch.at 12 rfl) rfl ?_
        exact a_zretE (kX2_hasStretch.at 13 rfl) (by first | exact Or.inl rfl | exact Or.inr rfl | omega) (⟨by first | exact (bI_1 (by omega)).symm | exact (bI_0 (by omega)).symm, rfl⟩)
      · refine a_iconst (kX2_hasStretch.at 10 rfl) rfl ?_
        refine a_goto (tgt := 23) (kX2_hasStretch.at 11 rfl) (by decide) ?_
        exact a_zretE (kX2_hasStretch.at 13 rfl) (by first | exact Or.inl rfl | exact Or.inr rfl | omega) (⟨by first | exact (bI_1 (by omega)).symm | exact (bI_0 (by omega)).symm, rfl⟩)
theorem k_put (G : GT) (M : Mem) (s : Nat) (i v : Int) (hs : s < 4) (hi : 0 ≤ i ∧ i < 60) : AM G yX2_put cX2_put 3 none 0 M [vR (10 + s), vI i, vI v] (qV (upm M (40 + s) i (if M (10 + s) 1 = 0 then iB v else if M (10 + s) 1 = 1 then iS v else v))) := by
  refine AM.mk (own := RX2) rfl sv_X2_put.1.2.2.2.2.2 (Nat.le_of_ble_eq_true rfl) rfl ?_
  refine a_aload_n (kX2_put.at 0 rfl) 0 rfl ?_
  refine a_getI (x := M (10 + s) 1) (kX2_put.at 1 rfl) fg_X2_15 (iI_W1 hs) (rfl) ?_
  refine a_ifne (tgt := 18) (kX2_put.at 2 rfl) (by decide) (fun h4 => ?_) (fun h4 => ?_)
  · refine a_aload_n (kX2_put.at 10 rfl) 0 rfl ?_
    refine a_getI (x := M (10 + s) 1) (kX2_put.at 11 rfl) fg_X2_15 (iI_W1 hs) (rfl) ?_
    refine a_iconst (kX2_put.at 12 rfl) rfl ?_
    refine a_icmpne (tgt := 37) (kX2_put.at 13 rfl) (by decide) (fun h23 => ?_) (fun h23 => ?_)
    · refine a_aload_n (kX2_put.at 21 rfl) 0 rfl ?_
      refine a_getR (kX2_put.at 22 rfl) fg_X2_9 (iR_W0 hs) ?_
      refine a_iload_n (kX2_put.at 23 rfl) 1 rfl ?_
      refine a_iload_n (kX2_put.at 24 rfl) 2 rfl ?_
      refine a_iast (kX2_put.at 25 rfl) (iA_W hs) (by omega) ?_
      exact a_vretE (kX2_put.at 26 rfl) (by first | rw [if_pos h4] | rw [if_neg h4, if_pos h23] | rw [if_neg h4, if_neg h23])
    · refine a_aload_n (kX2_put.at 14 rfl) 0 rfl ?_
      refine a_getR (kX2_put.at 15 rfl) fg_X2_9 (iR_W0 hs) ?_
      refine a_iload_n (kX2_put.at 16 rfl) 1 rfl ?_
      refine a_iload_n (kX2_put.at 17 rfl) 2 rfl ?_
      refine a_i2s (kX2_put.at 18 rfl) ?_
      refine a_iast (kX2_put.at 19 rfl) (iA_W hs) (by omega) ?_
      refine a_goto (tgt := 44) (kX2_put.at 20 rfl) (by decide) ?_
      exact a_vretE (kX2_put.at 26 rfl) (by first | rw [if_pos h4] | rw [if_neg h4, if_pos h23] | rw [if_neg h4, if_neg h23])
  · refine a_aload_n (kX2_put.at 3 rfl) 0 rfl ?_
    refine a_getR (kX2_put.at 4 rfl) fg_X2_9 (iR_W0 hs) ?_
    refine a_iload_n (kX2_put.at 5 rfl) 1 rfl ?_
    refine a_iload_n (kX2_put.at 6 rfl) 2 rfl ?_
    refine a_i2b (kX2_put.at 7 rfl) ?_
    refine a_iast (kX2_put.at 8 rfl) (iA_W hs) (by omega) ?_
    refine a_goto (tgt := 44) (kX2_put.at 9 rfl) (by decide) ?_
    exact a_vretE (kX2_put.at 26 rfl) (by first | rw [if_pos h4] | rw [if_neg h4, if_pos h23] | rw [if_neg h4, if_neg h23])
