/-! ===== the class: minds change, a quarter is kept ===== -/
set_option maxHeartbeats 4000000 in
set_option maxRecDepth 100000 in
theorem l_minds (G : GT) (M : Mem) (t : Nat) (w : Int) (P : Option AV → Mem → Prop) (ht : t < 2) (hp8 : 0 ≤ M (4 + t) 8 ∧ M (4 + t) 8 ≤ 8) (hlohi : (0 : Int) ≤ (M (4 + t) 8)) (kk : ∀ (N : Mem), (∀ p, N (25 + 8 * t) p = if 0 ≤ p ∧ p < (M (4 + t) 8) then iXor (M (25 + 8 * t) p) (iAnd (iShr w (3 * p)) 7) else M (25 + 8 * t) p) → (∀ (c : Nat) (x : Int), c ≠ 25 + 8 * t → N c x = M c x) → AW G RX1 cX1_changeMinds 3 none (XM G 0 P) 33 [(0, vR (4 + t)), (1, vI w), (2, vI (M (4 + t) 8))] [] N) : AW G RX1 cX1_changeMinds 3 none (XM G 0 P) 2 [(0, vR (4 + t)), (1, vI w), (2, vI 0)] [] M := by
  have key : ∀ (nn : Nat) (j : Int)  (N : Mem), (0 : Int) ≤ j → j ≤ (M (4 + t) 8) → (∀ p, N (25 + 8 * t) p = if 0 ≤ p ∧ p < j then iXor (M (25 + 8 * t) p) (iAnd (iShr w (3 * p)) 7) else M (25 + 8 * t) p) → (∀ (c : Nat) (x : Int), c ≠ 25 + 8 * t → N c x = M c x) → (M (4 + t) 8) - j < nn → AW G RX1 cX1_changeMinds 3 none (XM G 0 P) 2 [(0, vR (4 + t)), (1, vI w), (2, vI j)] [] N := by
    intro nn
    induction nn with
    | zero => intro j N hk0 hk1  hV hC hn; omega
    | succ nn ih =>
      intro j N hk0 hk1  hV hC hn
      have e8 := hC (4 + t) 8 (by omega)
      refine a_iload_n (kX1_changeMinds.at 2 rfl) 2 rfl ?_
      refine a_aload_n (kX1_changeMinds.at 3 rfl) 0 rfl ?_
      refine a_getI (x := N (4 + t) 8) (kX1_changeMinds.at 4 rfl) fg_X1_48 (iI_C8 ht) (rfl) ?_
      refine a_icmpge (tgt := 33) (kX1_changeMinds.at 5 rfl) (by decide) (fun h7 => ?_) (fun h7 => ?_)
      · obtain rfl : j = M (4 + t) 8 := by omega
        exact kk N hV hC
      · refine a_aload_n (kX1_changeMinds.at 6 rfl) 0 rfl ?_
        refine a_getR (kX1_changeMinds.at 7 rfl) fg_X1_15 (iR_C1 ht) ?_
        refine a_iload_n (kX1_changeMinds.at 8 rfl) 2 rfl ?_
        refine a_dup2 (kX1_changeMinds.at 9 rfl) rfl rfl ?_
        refine a_iald (x := N (25 + 8 * t) j) (kX1_changeMinds.at 10 rfl) (iA_C1 ht) (by omega) (rfl) ?_
        refine a_iload_n (kX1_changeMinds.at 11 rfl) 1 rfl ?_
        refine a_iconst (kX1_changeMinds.at 12 rfl) rfl ?_
        refine a_iload_n (kX1_changeMinds.at 13 rfl) 2 rfl ?_
        refine a_imul (kX1_changeMinds.at 14 rfl) (inr (by omega)) ?_
        refine a_ishr (kX1_changeMinds.at 15 rfl) ?_
        refine a_bipush (kX1_changeMinds.at 16 rfl) rfl rfl ?_
        refine a_iand (kX1_changeMinds.at 17 rfl) ?_
        refine a_ixor (kX1_changeMinds.at 18 rfl) ?_
        refine a_iast (kX1_changeMinds.at 19 rfl) (iA_C1 ht) (by omega) ?_
        have mst : ∀ p, ((upm N (25 + 8 * t) j (iXor (N (25 + 8 * t) j) (iAnd (iShr w (3 * j)) 7)))) (25 + 8 * t) p = if 0 ≤ p ∧ p < j + 1 then iXor (M (25 + 8 * t) p) (iAnd (iShr w (3 * p)) 7) else M (25 + 8 * t) p := fun p => by
          rw [upm_same]
          unfold ups
          by_cases e : p = j
          · rw [if_pos e, if_pos (by omega), hV j, if_neg (by omega), e]
          · rw [if_neg e, hV p]
            by_cases e2 : 0 ≤ p ∧ p < j
            · rw [if_pos e2, if_pos (by omega)]
            · rw [if_neg e2, if_neg (by omega)]
        refine a_iinc (ls' := [(0, vR (4 + t)), (1, vI w), (2, vI (j + 1))]) (kX1_changeMinds.at 20 rfl) 2 rfl (by decide) (inr (by omega)) rfl ?_
        refine a_goto (tgt := 2) (kX1_changeMinds.at 21 rfl) (by decide) ?_
        exact ih ((j + 1)) ((upm N (25 + 8 * t) j (iXor (N (25 + 8 * t) j) (iAnd (iShr w (3 * j)) 7)))) (by omega) (by omega) (fun p => mst p) (fun c x z => by rw [rd_ne z]; exact hC c x z) (by omega)
  exact key ((M (4 + t) 8) - (0) + 1 : Int).toNat (0) M (Int.le_refl _) hlohi  (fun p => by rw [if_neg (by omega)]) (fun _ _ _ => rfl) (by omega)
theorem SC_minds {M N K K' : Mem} {t : Nat} {w : Int} (hS : SC M t K) (hG : CG K K' w) (hV : ∀ p, 0 ≤ p → p < K 44 7 → N (25 + 8 * t) p = iXor (M (25 + 8 * t) p) (iAnd (iShr w (3 * p)) 7)) (hC : ∀ (c : Nat) (x : Int), c ≠ 25 + 8 * t → N c x = M c x) : SC N t K' := by
  obtain ⟨h1, h2, h3, h4, h5, h6⟩ := hS
  obtain ⟨g1, g2, g3, g4⟩ := hG
  have e7 : K' 44 7 = K 44 7 := g4 44 7 (by decide) (by omega)
  have e52 : K' 52 = K 52 := funext fun x => g4 52 x (by decide) (by omega)
  have e54 : K' 54 = K 54 := funext fun x => g4 54 x (by decide) (by omega)
  refine ⟨by rw [hC _ _ (by omega), e7]; exact h1, fun p a b => ?_, fun i a b => ?_, ⟨?_, ?_, ?_, ?_, ?_⟩, ?_, fun p a b => ?_⟩
  · rw [e7] at b
    have hp := h2 p a b
    refine ⟨by rw [hC _ _ (by omega), g4 50 _ (by decide) (by omega)]; exact hp.1, by rw [hV p a b, g1 p a b, hp.2.1], by rw [hC _ _ (by omega), e52]; exact hp.2.2.1, by rw [hC _ _ (by omega), e54]; exact hp.2.2.2.1, by rw [hC _ _ (by omega), g4 55 _ (by decide) (by omega)]; exact hp.2.2.2.2⟩
  · rw [hC _ _ (by omega), h3 i a b, whoIn_same e7 e52]
  · rw [hC _ _ (by omega), h4.1, movesNow_same e7 e54]
  · rw [hC _ _ (by omega), g4 44 24 (by decide) (by omega)]; exact h4.2.1
  · rw [hC _ _ (by omega), g4 44 25 (by decide) (by omega)]; exact h4.2.2.1
  · rw [hC _ _ (by omega), g4 44 26 (by decide) (by omega)]; exact h4.2.2.2.1
  · rw [hC _ _ (by omega), g4 44 27 (by decide) (by omega)]; exact h4.2.2.2.2
  · rw [hC _ _ (by omega)]; exact h5
  · rw [hC _ _ (by omega), e7, e54]; exact h6 p a b
theorem k_changeMinds (G : GT) (M K K' : Mem) (t : Nat) (w : Int) (ht : t < 2) (hS : SC M t K) (hp8 : 0 ≤ K 44 7 ∧ K 44 7 ≤ 8) (hG : CG K K' w) : AM G yX1_changeMinds cX1_changeMinds 3 none 0 M [vR (4 + t), vI w] (pV fun N => SC N t K' ∧ Fm t M N) := by
  refine AM.mk (own := RX1) rfl sv_X1_changeMinds.1.2.2.2.2.2 (Nat.le_of_ble_eq_true rfl) rfl ?_
  have e8 := hS.1
  refine a_iconst (kX1_changeMinds.at 0 rfl) rfl ?_
  refine a_istore_n (ls' := [(0, vR (4 + t)), (1, vI w), (2, vI 0)]) (kX1_changeMinds.at 1 rfl) (by decide) rfl ?_
  refine l_minds G M t w _ ht (by omega) (by omega) ?_
  intro N1 hV hC
  show AW _ _ _ _ _ _ 33 [(0, vR (4 + t)), (1, vI w), (2, vI (M (4 + t) 8))] [] N1
  exact a_vret (kX1_changeMinds.at 22 rfl) (⟨SC_minds hS hG (fun p a b => by rw [hV p, if_pos (by omega)]) hC, fun c j a _ _ _ _ _ => hC c j a⟩)
noncomputable def pk (a b c d : Int) : Int := iOr (iOr (iOr a (iShl b 4)) (iShl c 7)) (iShl d 12)
noncomputable def pkM (M : Mem) (t : Nat) (p : Int) : Int := pk (M (26 + 8 * t) p) (M (25 + 8 * t) p) (M (28 + 8 * t) p) (M (29 + 8 * t) p)
set_option maxHeartbeats 4000000 in
set_option maxRecDepth 100000 in
theorem l_keep (G : GT) (M : Mem) (t : Nat) (q : Int) (P : Option AV → Mem → Prop) (ht : t < 2) (hp8 : 0 ≤ M (4 + t) 8 ∧ M (4 + t) 8 ≤ 8) (hq : 0 ≤ q ∧ q ≤ 15) (hlohi : (0 : Int) ≤ (M (4 + t) 8)) (kk : ∀ (N : Mem), (∀ x, N (31 + 8 * t) x = if 8 * q ≤ x ∧ x < 8 * q + (M (4 + t) 8) then pkM M t (x - 8 * q) else M (31 + 8 * t) x) → (∀ (c : Nat) (x : Int), c ≠ 31 + 8 * t → N c x = M c x) → AW G RX1 cX1_keep 3 none (XM G 0 P) 62 [(0, vR (4 + t)), (1, vI q), (2, vI (M (4 + t) 8))] [] N) : AW G RX1 cX1_keep 3 none (XM G 0 P) 2 [(0, vR (4 + t)), (1, vI q), (2, vI 0)] [] M := by
  have key : ∀ (nn : Nat) (j : Int)  (N : Mem), (0 : Int) ≤ j → j ≤ (M (4 + t) 8) → (∀ x, N (31 + 8 * t) x = if 8 * q ≤ x ∧ x < 8 * q + j then pkM M t (x - 8 * q) else M (31 + 8 * t) x) → (∀ (c : Nat) (x : Int), c ≠ 31 + 8 * t → N c x = M c x) → (M (4 + t) 8) - j < nn → AW G RX1 cX1_keep 3 none (XM G 0 P) 2 [(0, vR (4 + t)), (1, vI q), (2, vI j)] [] N := by
    intro nn
    induction nn with
    | zero => intro j N hk0 hk1  hV hC hn; omega
    | succ nn ih =>
      intro j N hk0 hk1  hV hC hn
      have e8 := hC (4 + t) 8 (by omega)
      refine a_iload_n (kX1_keep.at 2 rfl) 2 rfl ?_
      refine a_aload_n (kX1_keep.at 3 rfl) 0 rfl ?_
      refine a_getI (x := N (4 + t) 8) (kX1_keep.at 4 rfl) fg_X1_48 (iI_C8 ht) (rfl) ?_
      refine a_icmpge (tgt := 62) (kX1_keep.at 5 rfl) (by decide) (fun h7 => ?_) (fun h7 => ?_)
      · obtain rfl : j = M (4 + t) 8 := by omega
        exact kk N hV hC
      · refine a_aload_n (kX1_keep.at 6 rfl) 0 rfl ?_
        refine a_getR (kX1_keep.at 7 rfl) fg_X1_33 (iR_C7 ht) ?_
        refine a_iload_n (kX1_keep.at 8 rfl) 1 rfl ?_
        refine a_bipush (kX1_keep.at 9 rfl) rfl rfl ?_
        refine a_imul (kX1_keep.at 10 rfl) (inr (by omega)) ?_
        refine a_iload_n (kX1_keep.at 11 rfl) 2 rfl ?_
        refine a_iadd (kX1_keep.at 12 rfl) (inr (by omega)) ?_
        refine a_aload_n (kX1_keep.at 13 rfl) 0 rfl ?_
        refine a_getR (kX1_keep.at 14 rfl) fg_X1_18 (iR_C2 ht) ?_
        refine a_iload_n (kX1_keep.at 15 rfl) 2 rfl ?_
        refine a_iald (x := N (26 + 8 * t) j) (kX1_keep.at 16 rfl) (iA_C2 ht) (by omega) (rfl) ?_
        refine a_aload_n (kX1_keep.at 17 rfl) 0 rfl ?_
        refine a_getR (kX1_keep.at 18 rfl) fg_X1_15 (iR_C1 ht) ?_
        refine a_iload_n (kX1_keep.at 19 rfl) 2 rfl ?_
        refine a_iald (x := N (25 + 8 * t) j) (kX1_keep.at 20 rfl) (iA_C1 ht) (by omega) (rfl) ?_
        refine a_iconst (kX1_keep.at 21 rfl) rfl ?_
        refine a_ishl (kX1_keep.at 22 rfl) ?_
        refine a_ior (kX1_keep.at 23 rfl) ?_
        refine a_aload_n (kX1_keep.at 24 rfl) 0 rfl ?_
        refine a_getR (kX1_keep.at 25 rfl) fg_X1_24 (iR_C4 ht) ?_
        refine a_iload_n (kX1_keep.at 26 rfl) 2 rfl ?_
        refine a_iald (x := N (28 + 8 * t) j) (kX1_keep.at 27 rfl) (iA_C4 ht) (by omega) (rfl) ?_
        refine a_bipush (kX1_keep.at 28 rfl) rfl rfl ?_
        refine a_ishl (kX1_keep.at 29 rfl) ?_
        refine a_ior (kX1_keep.at 30 rfl) ?_
        refine a_aload_n (kX1_keep.at 31 rfl) 0 rfl ?_
        refine a_getR (kX1_keep.at 32 rfl) fg_X1_27 (iR_C5 ht) ?_
        refine a_iload_n (kX1_keep.at 33 rfl) 2 rfl ?_
        refine a_iald (x := N (29 + 8 * t) j) (kX1_keep.at 34 rfl) (iA_C5 ht) (by omega) (rfl) ?_
        refine a_bipush (kX1_keep.at 35 rfl) rfl rfl ?_
        refine a_ishl (kX1_keep.at 36 rfl) ?_
        refine a_ior (kX1_keep.at 37 rfl) ?_
        refine a_iast (kX1_keep.at 38 rfl) (iA_C7 ht) (by omega) ?_
        have mst : ∀ x, ((upm N (31 + 8 * t) ((q * 8) + j) (iOr (iOr (iOr (N (26 + 8 * t) j) (iShl (N (25 + 8 * t) j) 4)) (iShl (N (28 + 8 * t) j) 7)) (iShl (N (29 + 8 * t) j) 12)))) (31 + 8 * t) x = if 8 * q ≤ x ∧ x < 8 * q + (j + 1) then pkM M t (x - 8 * q) else M (31 + 8 * t) x := fun x => by
          rw [upm_same]
          unfold ups
          by_cases e : x = q * 8 + j
          · rw [if_pos e, if_pos (by omega), show x - 8 * q = j by omega, hC _ _ (by omega), hC _ _ (by omega), hC _ _ (by omega), hC _ _ (by omega)]
            rfl
          · rw [if_neg e, hV x]
            by_cases e2 : 8 * q ≤ x ∧ x < 8 * q + j
            · rw [if_pos e2, if_pos (by omega)]
            · rw [if_neg e2, if_neg (by omega)]
        refine a_iinc (ls' := [(0, vR (4 + t)), (1, vI q), (2, vI (j + 1))]) (kX1_keep.at 39 rfl) 2 rfl (by decide) (inr (by omega)) rfl ?_
        refine a_goto (tgt := 2) (kX1_keep.at 40 rfl) (by decide) ?_
        exact ih ((j + 1)) ((upm N (31 + 8 * t) ((q * 8) + j) (iOr (iOr (iOr (N (26 + 8 * t) j) (iShl (N (25 + 8 * t) j) 4)) (iShl (N (28 + 8 * t) j) 7)) (iShl (N (29 + 8 * t) j) 12)))) (by omega) (by omega) (fun x => mst x) (fun c x z => by rw [rd_ne z]; exact hC c x z) (by omega)
  exact key ((M (4 + t) 8) - (0) + 1 : Int).toNat (0) M (Int.le_refl _) hlohi  (fun x => by rw [if_neg (by omega)]) (fun _ _ _ => rfl) (by omega)
theorem k_keep (G : GT) (M : Mem) (t : Nat) (q : Int) (ht : t < 2) (hp8 : 0 ≤ M (4 + t) 8 ∧ M (4 + t) 8 ≤ 8) (hq : 0 ≤ q ∧ q ≤ 15) : AM G yX1_keep cX1_keep 3 none 0 M [vR (4 + t), vI q] (pV fun N => (∀ x, N (31 + 8 * t) x = if 8 * q ≤ x ∧ x < 8 * q + M (4 + t) 8 then pkM M t (x - 8 * q) else M (31 + 8 * t) x) ∧ ∀ (c : Nat) (x : Int), c ≠ 31 + 8 * t → N c x = M c x) := by
  refine AM.mk (own := RX1) rfl sv_X1_keep.1.2.2.2.2.2 (Nat.le_of_ble_eq_true rfl) rfl ?_
  refine a_iconst (kX1_keep.at 0 rfl) rfl ?_
  refine a_istore_n (ls' := [(0, vR (4 + t)), (1, vI q), (2, vI 0)]) (kX1_keep.at 1 rfl) (by decide) rfl ?_
  refine l_keep G M t q _ ht hp8 hq (by omega) ?_
  intro N1 hV hC
  show AW _ _ _ _ _ _ 62 [(0, vR (4 + t)), (1, vI q), (2, vI (M (4 + t) 8))] [] N1
  exact a_vret (kX1_keep.at 41 rfl) (⟨hV, hC⟩)
