/-! ===== the class: bored, rooted, friends, count ===== -/
noncomputable def boB (K : Mem) (q k : Int) : Int → Int → Int := fun j is => if is ≠ 0 ∧ ¬ apart (K 56 (8 * q + k)) (K 56 (8 * q + j)) = 1 then 1 else 0
theorem bo_iff {K : Mem} {q k : Int} (hp : 0 ≤ K 44 7) : (forR 0 (K 44 7) (boB K q k) 1 ≠ 0 ↔ houseOf K q (K 56 (8 * q + k) - 1) = -1 ∧ houseOf K q (K 56 (8 * q + k) + 1) = -1) := by
  have key : forR 0 (K 44 7) (boB K q k) 1 ≠ 0 ↔ ∀ j, 0 ≤ j → j < K 44 7 → ¬ apart (K 56 (8 * q + k)) (K 56 (8 * q + j)) = 1 := by
    refine forR_inv (lo := 0) (hi := K 44 7) (f := boB K q k) (a := 1) (fun i x => x ≠ 0 ↔ ∀ j, 0 ≤ j → j < i → ¬ apart (K 56 (8 * q + k)) (K 56 (8 * q + j)) = 1) hp ⟨fun _ j a b => by omega, fun _ => by omega⟩ (fun i x a b hx => ?_)
    unfold boB
    by_cases e : x ≠ 0 ∧ ¬ apart (K 56 (8 * q + k)) (K 56 (8 * q + i)) = 1
    · rw [if_pos e]
      refine ⟨fun _ j c d => ?_, fun _ => by omega⟩
      by_cases ej : j = i
      · rw [ej]; exact e.2
      · exact hx.mp e.1 j c (by omega)
    · rw [if_neg e]
      refine ⟨fun z => absurd rfl z, fun z => ?_⟩
      exact absurd ⟨hx.mpr (fun j c d => z j c (by omega)), z i a (by omega)⟩ e
  rw [key, houseOf_none hp, houseOf_none hp]
  unfold apart
  refine ⟨fun z => ⟨fun j a b y => ?_, fun j a b y => ?_⟩, fun z j a b y => ?_⟩
  · have w := z j a b
    rw [if_pos (by omega)] at w
    omega
  · have w := z j a b
    rw [if_neg (by omega)] at w
    omega
  · have z1 := z.1 j a b
    have z2 := z.2 j a b
    split at y <;> omega
set_option maxHeartbeats 4000000 in
set_option maxRecDepth 100000 in
theorem l_kboredB (G : GT) (M K : Mem) (k n q : Int) (P : Option AV → Mem → Prop) (h8 : M 4 8 = K 44 7) (hp8 : 0 ≤ K 44 7 ∧ K 44 7 ≤ 8) (hT : TR M 0 K 16) (hq : 0 ≤ q ∧ q ≤ 15) (hk : 0 ≤ k ∧ k < K 44 7) (hlohi : (0 : Int) ≤ (K 44 7)) (kk : AW G RX5 cX5_bored 6 (some .int) (XM G 2 P) 71 [(0, vR 0), (1, vI k), (2, vI n), (3, vI q), (4, vI (forR 0 (K 44 7) (boB K q k) 1)), (5, vI (K 44 7))] [] M) : AW G RX5 cX5_bored 6 (some .int) (XM G 2 P) 27 [(0, vR 0), (1, vI k), (2, vI n), (3, vI q), (4, vI 1), (5, vI 0)] [] M := by
  have key : ∀ (nn : Nat) (j : Int) (is : Int), (0 : Int) ≤ j → j ≤ (K 44 7) → is = forR 0 j (boB K q k) 1 → (K 44 7) - j < nn → AW G RX5 cX5_bored 6 (some .int) (XM G 2 P) 27 [(0, vR 0), (1, vI k), (2, vI n), (3, vI q), (4, vI is), (5, vI j)] [] M := by
    intro nn
    induction nn with
    | zero => intro j is hk0 hk1 e_is  hn; omega
    | succ nn ih =>
      intro j is hk0 hk1 e_is  hn
      refine a_iload (kX5_bored.at 17 rfl) 5 rfl ?_
      refine a_aload_n (kX5_bored.at 18 rfl) 0 rfl ?_
      refine a_getR (kX5_bored.at 19 rfl) fg_X5_29 ir_0_3 ?_
      refine a_getI (x := M 4 8) (kX5_bored.at 20 rfl) fg_X5_124 ii_4_8 (rfl) ?_
      refine a_icmpge (tgt := 71) (kX5_bored.at 21 rfl) (by decide) (fun h36 => ?_) (fun h36 => ?_)
      · subst e_is
        obtain rfl : j = K 44 7 := by omega
        exact kk 
      · refine a_iload (kX5_bored.at 22 rfl) 4 rfl ?_
        refine a_ifeq (tgt := 62) (kX5_bored.at 23 rfl) (by decide) (fun h41 => ?_) (fun h41 => ?_)
        · refine a_iconst (kX5_bored.at 33 rfl) rfl ?_
          refine a_istore (ls' := [(0, vR 0), (1, vI k), (2, vI n), (3, vI q), (4, vI 0), (5, vI j)]) (kX5_bored.at 34 rfl) (by decide) rfl ?_
          refine a_iinc (ls' := [(0, vR 0), (1, vI k), (2, vI n), (3, vI q), (4, vI 0), (5, vI (j + 1))]) (kX5_bored.at 35 rfl) 5 rfl (by decide) (inr (by omega)) rfl ?_
          refine a_goto (tgt := 27) (kX5_bored.at 36 rfl) (by decide) ?_
          exact ih ((j + 1)) (0) (by omega) (by omega) (by rw [forR_succ hk0, ← e_is] <;> (clear ih kk e_is; unfold boB; first | exact (if_pos ⟨h41, h55⟩).symm | (rw [if_neg]; intro z; exact z.2 h55) | (rw [if_neg]; intro z; exact z.1 h41))) (by omega)
        · refine a_aload_n (kX5_bored.at 24 rfl) 0 rfl ?_
          refine a_getR (kX5_bored.at 25 rfl) fg_X5_29 ir_0_3 ?_
          refine a_iload_n (kX5_bored.at 26 rfl) 3 rfl ?_
          refine a_iload_n (kX5_bored.at 27 rfl) 1 rfl ?_
          refine a_iload (kX5_bored.at 28 rfl) 5 rfl ?_
          refine AW.callV (as := [vI q, vI k, vI j]) (st := []) (kX5_bored.at 29 rfl) ml_X5_130 sv_X1_nearBehind (k := 4) (io_4) rfl rfl ⟨Nat.le_of_ble_eq_true rfl, Nat.le_of_ble_eq_true rfl⟩ ⟨Nat.le_refl _, Nat.le_refl _⟩ rfl rfl (Nat.le_of_ble_eq_true rfl) (k_nearBehind G M K 0 q k j (by omega) hT (by omega) hq hk (by omega)) (kIE ?_)
          refine a_ifneB (tgt := 62) (kX5_bored.at 30 rfl) (by decide) (fun h55 => ?_) (fun h55 => ?_)
          · refine a_iconst (kX5_bored.at 33 rfl) rfl ?_
            refine a_istore (ls' := [(0, vR 0), (1, vI k), (2, vI n), (3, vI q), (4, vI 0), (5, vI j)]) (kX5_bored.at 34 rfl) (by decide) rfl ?_
            refine a_iinc (ls' := [(0, vR 0), (1, vI k), (2, vI n), (3, vI q), (4, vI 0), (5, vI (j + 1))]) (kX5_bored.at 35 rfl) 5 rfl (by decide) (inr (by omega)) rfl ?_
            refine a_goto (tgt := 27) (kX5_bored.at 36 rfl) (by decide) ?_
            exact ih ((j + 1)) (0) (by omega) (by omega) (by rw [forR_succ hk0, ← e_is] <;> (clear ih kk e_is; unfold boB; first | exact (if_pos ⟨h41, h55⟩).symm | (rw [if_neg]; intro z; exact z.2 h55) | (rw [if_neg]; intro z; exact z.1 h41))) (by omega)
          · refine a_iconst (kX5_bored.at 31 rfl) rfl ?_
            refine a_goto (tgt := 63) (kX5_bored.at 32 rfl) (by decide) ?_
            refine a_istore (ls' := [(0, vR 0), (1, vI k), (2, vI n), (3, vI q), (4, vI 1), (5, vI j)]) (kX5_bored.at 34 rfl) (by decide) rfl ?_
            refine a_iinc (ls' := [(0, vR 0), (1, vI k), (2, vI n), (3, vI q), (4, vI 1), (5, vI (j + 1))]) (kX5_bored.at 35 rfl) 5 rfl (by decide) (inr (by omega)) rfl ?_
            refine a_goto (tgt := 27) (kX5_bored.at 36 rfl) (by decide) ?_
            exact ih ((j + 1)) (1) (by omega) (by omega) (by rw [forR_succ hk0, ← e_is] <;> (clear ih kk e_is; unfold boB; first | exact (if_pos ⟨h41, h55⟩).symm | (rw [if_neg]; intro z; exact z.2 h55) | (rw [if_neg]; intro z; exact z.1 h41))) (by omega)
  exact key ((K 44 7) - (0) + 1 : Int).toNat (0) 1 (Int.le_refl _) hlohi (forR_nil (Int.le_refl _)).symm  (by omega)
set_option maxHeartbeats 4000000 in
set_option maxRecDepth 100000 in
theorem l_kbored (G : GT) (M K : Mem) (k : Int) (P : Option AV → Mem → Prop) (h8 : M 4 8 = K 44 7) (hp8 : 0 ≤ K 44 7 ∧ K 44 7 ≤ 8) (hT : TR M 0 K 16) (hk : 0 ≤ k ∧ k < K 44 7) (hlohi : (0 : Int) ≤ 16) (kk : (0 ≤ (forR 0 16 (brF K k) 0) ∧ (forR 0 16 (brF K k) 0) ≤ 16) → AW G RX5 cX5_bored 6 (some .int) (XM G 2 P) 90 [(0, vR 0), (1, vI k), (2, vI (forR 0 16 (brF K k) 0)), (3, vI 16)] [] M) : AW G RX5 cX5_bored 6 (some .int) (XM G 2 P) 15 [(0, vR 0), (1, vI k), (2, vI 0), (3, vI 0)] [] M := by
  have key : ∀ (nn : Nat) (q : Int) (n : Int), (0 : Int) ≤ q → q ≤ 16 → n = forR 0 q (brF K k) 0 → (0 ≤ n ∧ n ≤ q) → 16 - q < nn → AW G RX5 cX5_bored 6 (some .int) (XM G 2 P) 15 [(0, vR 0), (1, vI k), (2, vI n), (3, vI q)] [] M := by
    intro nn
    induction nn with
    | zero => intro q n hk0 hk1 e_n hb hn; omega
    | succ nn ih =>
      intro q n hk0 hk1 e_n hb hn
      refine a_iload_n (kX5_bored.at 10 rfl) 3 rfl ?_
      refine a_bipush (kX5_bored.at 11 rfl) rfl rfl ?_
      refine a_icmpge (tgt := 90) (kX5_bored.at 12 rfl) (by decide) (fun h18 => ?_) (fun h18 => ?_)
      · subst e_n
        obtain rfl : q = 16 := by omega
        exact kk hb
      · refine a_iconst (kX5_bored.at 13 rfl) rfl ?_
        refine a_istore (ls' := [(0, vR 0), (1, vI k), (2, vI n), (3, vI q), (4, vI 1)]) (kX5_bored.at 14 rfl) (by decide) rfl ?_
        refine a_iconst (kX5_bored.at 15 rfl) rfl ?_
        refine a_istore (ls' := [(0, vR 0), (1, vI k), (2, vI n), (3, vI q), (4, vI 1), (5, vI 0)]) (kX5_bored.at 16 rfl) (by decide) rfl ?_
        refine l_kboredB G M K k n q _ h8 hp8 hT (by omega) hk hp8.1 ?_
        show AW _ _ _ _ _ _ 71 [(0, vR 0), (1, vI k), (2, vI n), (3, vI q), (4, vI (forR 0 (K 44 7) (boB K q k) 1)), (5, vI (K 44 7))] [] M
        refine a_iload_n (kX5_bored.at 37 rfl) 2 rfl ?_
        refine a_iload (kX5_bored.at 38 rfl) 4 rfl ?_
        refine a_ifeq (tgt := 81) (kX5_bored.at 39 rfl) (by decide) (fun h74 => ?_) (fun h74 => ?_)
        · refine a_iconst (kX5_bored.at 42 rfl) rfl ?_
          refine a_iadd (kX5_bored.at 43 rfl) (inr (by omega)) ?_
          refine a_istore_n (ls' := [(0, vR 0), (1, vI k), (2, vI (n + 0)), (3, vI q), (4, vI (forR 0 (K 44 7) (boB K q k) 1)), (5, vI (K 44 7))]) (kX5_bored.at 44 rfl) (by decide) rfl ?_
          refine a_iinc (ls' := [(0, vR 0), (1, vI k), (2, vI (n + 0)), (3, vI (q + 1)), (4, vI (forR 0 (K 44 7) (boB K q k) 1)), (5, vI (K 44 7))]) (kX5_bored.at 45 rfl) 3 rfl (by decide) (inr (by omega)) rfl ?_
          refine a_goto (tgt := 15) (kX5_bored.at 46 rfl) (by decide) ?_
          refine AW.loc (ls' := [(0, vR 0), (1, vI k), (2, vI (n + 0)), (3, vI (q + 1))]) [0, 1, 2, 3] rfl ?_
          exact ih ((q + 1)) ((n + 0)) (by omega) (by omega) (by rw [forR_succ hk0, ← e_n] <;> (clear ih kk e_n; unfold brF; first | exact (if_pos ((bo_iff hp8.1).mp h74)).symm | exact (if_neg (fun z => (bo_iff hp8.1).mpr z h74)).symm)) (by omega) (by omega)
        · refine a_iconst (kX5_bored.at 40 rfl) rfl ?_
          refine a_goto (tgt := 82) (kX5_bored.at 41 rfl) (by decide) ?_
          refine a_iadd (kX5_bored.at 43 rfl) (inr (by omega)) ?_
          refine a_istore_n (ls' := [(0, vR 0), (1, vI k), (2, vI (n + 1)), (3, vI q), (4, vI (forR 0 (K 44 7) (boB K q k) 1)), (5, vI (K 44 7))]) (kX5_bored.at 44 rfl) (by decide) rfl ?_
          refine a_iinc (ls' := [(0, vR 0), (1, vI k), (2, vI (n + 1)), (3, vI (q + 1)), (4, vI (forR 0 (K 44 7) (boB K q k) 1)), (5, vI (K 44 7))]) (kX5_bored.at 45 rfl) 3 rfl (by decide) (inr (by omega)) rfl ?_
          refine a_goto (tgt := 15) (kX5_bored.at 46 rfl) (by decide) ?_
          refine AW.loc (ls' := [(0, vR 0), (1, vI k), (2, vI (n + 1)), (3, vI (q + 1))]) [0, 1, 2, 3] rfl ?_
          exact ih ((q + 1)) ((n + 1)) (by omega) (by omega) (by rw [forR_succ hk0, ← e_n] <;> (clear ih kk e_n; unfold brF; first | exact (if_pos ((bo_iff hp8.1).mp h74)).symm | exact (if_neg (fun z => (bo_iff hp8.1).mpr z h74)).symm)) (by omega) (by omega)
  exact key ((16) - (0) + 1 : Int).toNat (0) 0 (Int.le_refl _) hlohi (forR_nil (Int.le_refl _)).symm (by omega) (by omega)
theorem k_bored (G : GT) (M K : Mem) (k : Int) (hC : Cp M K) (h : MB K) : AM G yX5_bored cX5_bored 6 (some .int) 2 M [vR 0, vI k] (qI (o_bored K k) M) := by
  refine AM.mk (own := RX5) rfl sv_X5_bored.1.2.2.2.2.2 (Nat.le_of_ble_eq_true rfl) rfl ?_
  have hI := CI_of hC h
  have ef := find_p K
  have hp := hI.1.1
  have e5 := hC.2.1.2.1
  refine a_aload_n (kX5_bored.at 0 rfl) 0 rfl ?_
  refine a_iload_n (kX5_bored.at 1 rfl) 1 rfl ?_
  refine AW.callV (as := [vI k]) (st := []) (kX5_bored.at 2 rfl) ml_X5_70 sv_X5_isPerson (k := 0) (io_0) rfl rfl ⟨Nat.le_of_ble_eq_true rfl, Nat.le_of_ble_eq_true rfl⟩ ⟨Nat.le_refl _, Nat.le_refl _⟩ rfl rfl (Nat.le_of_ble_eq_true rfl) (k_isPerson G M k) (kIE ?_)
  refine a_ifneB (tgt := 11) (kX5_bored.at 3 rfl) (by decide) (fun h5 => ?_) (fun h5 => ?_)
  · refine a_iconst (kX5_bored.at 6 rfl) rfl ?_
    refine a_istore_n (ls' := [(0, vR 0), (1, vI k), (2, vI 0)]) (kX5_bored.at 7 rfl) (by decide) rfl ?_
    refine a_iconst (kX5_bored.at 8 rfl) rfl ?_
    refine a_istore_n (ls' := [(0, vR 0), (1, vI k), (2, vI 0), (3, vI 0)]) (kX5_bored.at 9 rfl) (by decide) rfl ?_
    refine l_kbored G M (find K) k _ hC.2.2.2.1.1.1 (by omega) hC.2.2.2.1.2 (by omega) (by omega) ?_
    intro hb
    show AW _ _ _ _ _ _ 90 [(0, vR 0), (1, vI k), (2, vI (boredOf (find K) k)), (3, vI 16)] [] M
    refine a_iload_n (kX5_bored.at 47 rfl) 2 rfl ?_
    exact a_iretE (kX5_bored.at 48 rfl) (by unfold o_bored; first | exact ⟨(if_neg (by omega)).symm, rfl⟩ | exact ⟨(if_pos (by omega)).symm, rfl⟩)
  · refine a_bipush (kX5_bored.at 4 rfl) rfl rfl ?_
    exact a_iretE (kX5_bored.at 5 rfl) (by unfold o_bored; first | exact ⟨(if_neg (by omega)).symm, rfl⟩ | exact ⟨(if_pos (by omega)).symm, rfl⟩)
theorem rt_all : ∀ (n : Fin 9) (m : Fin 256), iAnd (iShl 1 (n.val : Int) - 1) (iXor (m.val : Int) (-1)) = forR 0 (n.val : Int) (fun k b => iOr b (if isIn (m.val : Int) k = true then 0 else iShl 1 k)) 0 := by decide +kernel
theorem rt_at {n m : Int} (hn : 0 ≤ n ∧ n ≤ 8) (hm : 0 ≤ m ∧ m < 256) : iAnd (iShl 1 n - 1) (iXor m (-1)) = forR 0 n (fun k b => iOr b (if isIn m k = true then 0 else iShl 1 k)) 0 := by
  have z := rt_all ⟨n.toNat, by omega⟩ ⟨m.toNat, by omega⟩
  simp only [] at z
  rw [show ((n.toNat : Nat) : Int) = n by omega, show ((m.toNat : Nat) : Int) = m by omega] at z
  exact z
theorem shl9 : ∀ n : Fin 9, 1 ≤ iShl 1 (n.val : Int) ∧ iShl 1 (n.val : Int) ≤ 256 := by decide +kernel
theorem shl9_at {n : Int} (hn : 0 ≤ n ∧ n ≤ 8) : 1 ≤ iShl 1 n ∧ iShl 1 n ≤ 256 := by
  have z := shl9 ⟨n.toNat, by omega⟩
  simp only [] at z
  rw [show ((n.toNat : Nat) : Int) = n by omega] at z
  exact z
theorem rooted_eq {M K : Mem} (hS : SQ M K) (hR : SR K 16 0 0) : iAnd (iShl 1 (M 4 8) - 1) (iXor (M 4 14) (-1)) = rootedNow K := by
  have h8 : M 4 8 = K 44 7 := hS.1
  have hm : 0 ≤ M 4 14 ∧ M 4 14 < 256 := hS.2.2.2.2.1
  have hb : ∀ p, 0 ≤ p → p ≤ 7 → (isIn (M 4 14) p = true ↔ p < K 44 7 ∧ 0 < K 54 p) := hS.2.2.2.2.2
  have hp := hR.1
  rw [h8, rt_at hp hm]
  unfold rootedNow
  refine forR_cong fun p b a c => ?_
  have z := hb p a (by omega)
  have y := (hR.2.1 p a c).2.2.1.1
  by_cases e : isIn (M 4 14) p = true
  · rw [if_pos e, if_neg (by have := (z.mp e).2; omega)]
  · rw [if_neg e, if_pos (by
      have w : ¬ 0 < K 54 p := fun w => e (z.mpr ⟨c, w⟩)
      omega)]
theorem k_rooted (G : GT) (M K : Mem) (hC : Cp M K) (h : MB K) : AM G yX5_rooted cX5_rooted 1 (some .int) 0 M [vR 0] (qI (rootedNow (find K)) M) := by
  refine AM.mk (own := RX5) rfl sv_X5_rooted.1.2.2.2.2.2 (Nat.le_of_ble_eq_true rfl) rfl ?_
  have hI := CI_of hC h
  have hR : SR (find K) 16 0 0 := lives_SR hI.1 hI.2
  have hS := hC.2.2.2.1.1
  have h8 : M 4 8 = find K 44 7 := hS.1
  have hsh := shl9_at (n := M 4 8) (by rw [h8]; exact hR.1)
  refine a_iconst (kX5_rooted.at 0 rfl) rfl ?_
  refine a_aload_n (kX5_rooted.at 1 rfl) 0 rfl ?_
  refine a_getR (kX5_rooted.at 2 rfl) fg_X5_29 ir_0_3 ?_
  refine a_getI (x := M 4 8) (kX5_rooted.at 3 rfl) fg_X5_124 ii_4_8 (rfl) ?_
  refine a_ishl (kX5_rooted.at 4 rfl) ?_
  refine a_iconst (kX5_rooted.at 5 rfl) rfl ?_
  refine a_isub (kX5_rooted.at 6 rfl) (inr (by omega)) ?_
  refine a_aload_n (kX5_rooted.at 7 rfl) 0 rfl ?_
  refine a_getR (kX5_rooted.at 8 rfl) fg_X5_29 ir_0_3 ?_
  refine a_getI (x := M 4 14) (kX5_rooted.at 9 rfl) fg_X5_148 ii_4_14 (rfl) ?_
  refine a_iconst (kX5_rooted.at 10 rfl) rfl ?_
  refine a_ixor (kX5_rooted.at 11 rfl) ?_
  refine a_iand (kX5_rooted.at 12 rfl) ?_
  exact a_iretE (kX5_rooted.at 13 rfl) (⟨rooted_eq hS hR, rfl⟩)
theorem iOr_z {b : Int} (h : 0 ≤ b ∧ b < 2147483648) : iOr b 0 = b := by
  obtain ⟨n, rfl⟩ := nat_of h.1
  have z := iOr_nat (x := n) (y := 0) (by omega) (by omega)
  rw [Nat.or_zero] at z
  exact z
noncomputable def frF (K : Mem) (k : Int) : Int → Int → Int := fun j b => if ¬ j = k ∧ agreed K 15 k j = true then iOr b (iShl 1 j) else b
set_option maxHeartbeats 4000000 in
set_option maxRecDepth 100000 in
theorem l_kfriends (G : GT) (M K : Mem) (k : Int) (P : Option AV → Mem → Prop) (hS : SQ M K) (hp8 : 0 ≤ K 44 7 ∧ K 44 7 ≤ 8) (hT : TR M 0 K 16) (hk : 0 ≤ k ∧ k < K 44 7) (hlohi : (0 : Int) ≤ (K 44 7)) (kk : AW G RX5 cX5_friends 4 (some .int) (XM G 2 P) 57 [(0, vR 0), (1, vI k), (2, vI (forR 0 (K 44 7) (frF K k) 0)), (3, vI (K 44 7))] [] M) : AW G RX5 cX5_friends 4 (some .int) (XM G 2 P) 15 [(0, vR 0), (1, vI k), (2, vI 0), (3, vI 0)] [] M := by
  have key : ∀ (nn : Nat) (j : Int) (b : Int), (0 : Int) ≤ j → j ≤ (K 44 7) → b = forR 0 j (frF K k) 0 → (K 44 7) - j < nn → AW G RX5 cX5_friends 4 (some .int) (XM G 2 P) 15 [(0, vR 0), (1, vI k), (2, vI b), (3, vI j)] [] M := by
    intro nn
    induction nn with
    | zero => intro j b hk0 hk1 e_b  hn; omega
    | succ nn ih =>
      intro j b hk0 hk1 e_b  hn
      have h8 : M 4 8 = K 44 7 := hS.1
      refine a_iload_n (kX5_friends.at 10 rfl) 3 rfl ?_
      refine a_aload_n (kX5_friends.at 11 rfl) 0 rfl ?_
      refine a_getR (kX5_friends.at 12 rfl) fg_X5_29 ir_0_3 ?_
      refine a_getI (x := M 4 8) (kX5_friends.at 13 rfl) fg_X5_124 ii_4_8 (rfl) ?_
      refine a_icmpge (tgt := 57) (kX5_friends.at 14 rfl) (by decide) (fun h23 => ?_) (fun h23 => ?_)
      · subst e_b
        obtain rfl : j = K 44 7 := by omega
        exact kk 
      · refine a_iload_n (kX5_friends.at 15 rfl) 3 rfl ?_
        refine a_iload_n (kX5_friends.at 16 rfl) 1 rfl ?_
        refine a_icmpeq (tgt := 51) (kX5_friends.at 17 rfl) (by decide) (fun h28 => ?_) (fun h28 => ?_)
        · refine a_iinc (ls' := [(0, vR 0), (1, vI k), (2, vI b), (3, vI (j + 1))]) (kX5_friends.at 31 rfl) 3 rfl (by decide) (inr (by omega)) rfl ?_
          refine a_goto (tgt := 15) (kX5_friends.at 32 rfl) (by decide) ?_
          exact ih ((j + 1)) (b) (by omega) (by omega) (by rw [forR_succ hk0, ← e_b] <;> (clear ih kk e_b; unfold frF; first | exact (if_pos ⟨h28, h42⟩).symm | exact (if_neg (fun z => h42 z.2)).symm | exact (if_neg (fun z => z.1 h28)).symm)) (by omega)
        · refine a_aload_n (kX5_friends.at 18 rfl) 0 rfl ?_
          refine a_getR (kX5_friends.at 19 rfl) fg_X5_29 ir_0_3 ?_
          refine a_bipush (kX5_friends.at 20 rfl) rfl rfl ?_
          refine a_iload_n (kX5_friends.at 21 rfl) 1 rfl ?_
          refine a_iload_n (kX5_friends.at 22 rfl) 3 rfl ?_
          refine AW.callV (as := [vI 15, vI k, vI j]) (st := []) (kX5_friends.at 23 rfl) ml_X5_127 sv_X1_agreeBehind (k := 4) (io_4) rfl rfl ⟨Nat.le_of_ble_eq_true rfl, Nat.le_of_ble_eq_true rfl⟩ ⟨Nat.le_refl _, Nat.le_refl _⟩ rfl rfl (Nat.le_of_ble_eq_true rfl) (k_agreeQ G M K 15 k j hS hT (by omega) (by omega) hk (by omega)) (kIE ?_)
          refine a_ifeqB (tgt := 51) (kX5_friends.at 24 rfl) (by decide) (fun h42 => ?_) (fun h42 => ?_)
          · refine a_iinc (ls' := [(0, vR 0), (1, vI k), (2, vI b), (3, vI (j + 1))]) (kX5_friends.at 31 rfl) 3 rfl (by decide) (inr (by omega)) rfl ?_
            refine a_goto (tgt := 15) (kX5_friends.at 32 rfl) (by decide) ?_
            exact ih ((j + 1)) (b) (by omega) (by omega) (by rw [forR_succ hk0, ← e_b] <;> (clear ih kk e_b; unfold frF; first | exact (if_pos ⟨h28, h42⟩).symm | exact (if_neg (fun z => h42 z.2)).symm | exact (if_neg (fun z => z.1 h28)).symm)) (by omega)
          · refine a_iload_n (kX5_friends.at 25 rfl) 2 rfl ?_
            refine a_iconst (kX5_friends.at 26 rfl) rfl ?_
            refine a_iload_n (kX5_friends.at 27 rfl) 3 rfl ?_
            refine a_ishl (kX5_friends.at 28 rfl) ?_
            refine a_ior (kX5_friends.at 29 rfl) ?_
            refine a_istore_n (ls' := [(0, vR 0), (1, vI k), (2, vI (iOr b (iShl 1 j))), (3, vI j)]) (kX5_friends.at 30 rfl) (by decide) rfl ?_
            refine a_iinc (ls' := [(0, vR 0), (1, vI k), (2, vI (iOr b (iShl 1 j))), (3, vI (j + 1))]) (kX5_friends.at 31 rfl) 3 rfl (by decide) (inr (by omega)) rfl ?_
            refine a_goto (tgt := 15) (kX5_friends.at 32 rfl) (by decide) ?_
            exact ih ((j + 1)) ((iOr b (iShl 1 j))) (by omega) (by omega) (by rw [forR_succ hk0, ← e_b] <;> (clear ih kk e_b; unfold frF; first | exact (if_pos ⟨h28, h42⟩).symm | exact (if_neg (fun z => h42 z.2)).symm | exact (if_neg (fun z => z.1 h28)).symm)) (by omega)
  exact key ((K 44 7) - (0) + 1 : Int).toNat (0) 0 (Int.le_refl _) hlohi (forR_nil (Int.le_refl _)).symm  (by omega)
theorem friends_eq {K : Mem} {k : Int} (hp : 0 ≤ K 44 7 ∧ K 44 7 ≤ 8) (hv : ∀ p, 0 ≤ p → p < K 44 7 → K 57 (8 * 15 + p) = K 53 p) (hk : 0 ≤ k ∧ k < K 44 7) : forR 0 (K 44 7) (frF K k) 0 = friendsOf K k := by
  have key := forR_rel (lo := 0) (hi := K 44 7) (f := frF K k) (g := fun j b => iOr b (if ¬ j = k ∧ agree K j k = true then iShl 1 j else 0)) (a := (0 : Int)) (b := (0 : Int)) (fun _ x y => x = y ∧ 0 ≤ x ∧ x < 256) hp.1 ⟨rfl, by omega, by omega⟩ (fun j x y a b h => ?_)
  · exact key.1
  · obtain ⟨rfl, h0⟩ := h
    show frF K k j x = iOr x (if ¬ j = k ∧ agree K j k = true then iShl 1 j else 0) ∧ 0 ≤ frF K k j x ∧ frF K k j x < 256
    have e : (agreed K 15 k j = true) ↔ (agree K j k = true) := by
      rw [agreed_iff, hv k hk.1 hk.2, hv j a b]
      unfold agree
      rw [decide_eq_true_iff]
      exact ⟨fun z => ⟨z.2.1, z.1, z.2.2.symm⟩, fun z => ⟨z.2.1, z.1, z.2.2.symm⟩⟩
    unfold frF
    by_cases c : ¬ j = k ∧ agreed K 15 k j = true
    · rw [if_pos c, if_pos ⟨c.1, e.mp c.2⟩]
      have z := iOr_lt (n := 8) (by omega) (x := x) (y := iShl 1 j) (by rw [show (2 : Int) ^ 8 = 256 by decide]; exact h0) (shl1_r (by omega))
      rw [show (2 : Int) ^ 8 = 256 by decide] at z
      exact ⟨rfl, z⟩
    · rw [if_neg c, if_neg (fun z => c ⟨z.1, e.mpr z.2⟩), iOr_z (by omega)]
      exact ⟨rfl, h0⟩
theorem k_friends (G : GT) (M K : Mem) (k : Int) (hC : Cp M K) (h : MB K) : AM G yX5_friends cX5_friends 4 (some .int) 2 M [vR 0, vI k] (qI (o_friends K k) M) := by
  refine AM.mk (own := RX5) rfl sv_X5_friends.1.2.2.2.2.2 (Nat.le_of_ble_eq_true rfl) rfl ?_
  have hI := CI_of hC h
  have ef := find_p K
  have hp := hI.1.1
  have e5 := hC.2.1.2.1
  have hv := (lives_DT hI.1 hI.2).2
  refine a_aload_n (kX5_friends.at 0 rfl) 0 rfl ?_
  refine a_iload_n (kX5_friends.at 1 rfl) 1 rfl ?_
  refine AW.callV (as := [vI k]) (st := []) (kX5_friends.at 2 rfl) ml_X5_70 sv_X5_isPerson (k := 0) (io_0) rfl rfl ⟨Nat.le_of_ble_eq_true rfl, Nat.le_of_ble_eq_true rfl⟩ ⟨Nat.le_refl _, Nat.le_refl _⟩ rfl rfl (Nat.le_of_ble_eq_true rfl) (k_isPerson G M k) (kIE ?_)
  refine a_ifneB (tgt := 11) (kX5_friends.at 3 rfl) (by decide) (fun h5 => ?_) (fun h5 => ?_)
  · refine a_iconst (kX5_friends.at 6 rfl) rfl ?_
    refine a_istore_n (ls' := [(0, vR 0), (1, vI k), (2, vI 0)]) (kX5_friends.at 7 rfl) (by decide) rfl ?_
    refine a_iconst (kX5_friends.at 8 rfl) rfl ?_
    refine a_istore_n (ls' := [(0, vR 0), (1, vI k), (2, vI 0), (3, vI 0)]) (kX5_friends.at 9 rfl) (by decide) rfl ?_
    refine l_kfriends G M (find K) k _ hC.2.2.2.1.1 (by omega) hC.2.2.2.1.2 (by omega) (by omega) ?_
    show AW _ _ _ _ _ _ 57 [(0, vR 0), (1, vI k), (2, vI (forR 0 (find K 44 7) (frF (find K) k) 0)), (3, vI (find K 44 7))] [] M
    refine a_iload_n (kX5_friends.at 33 rfl) 2 rfl ?_
    exact a_iretE (kX5_friends.at 34 rfl) (by unfold o_friends; first | exact ⟨(if_neg (by omega)).symm, rfl⟩ | (rw [if_pos (by omega)]; exact ⟨friends_eq (by omega) (fun p a b => hv p a (by omega)) (by omega), rfl⟩))
  · refine a_bipush (kX5_friends.at 4 rfl) rfl rfl ?_
    exact a_iretE (kX5_friends.at 5 rfl) (by unfold o_friends; first | exact ⟨(if_neg (by omega)).symm, rfl⟩ | (rw [if_pos (by omega)]; exact ⟨friends_eq (by omega) (fun p a b => hv p a (by omega)) (by omega), rfl⟩))
theorem k_count (G : GT) (M K : Mem) (w : Int) (hC : Cp M K) (h : MB K) : AM G yX5_count cX5_count 2 (some .int) 2 M [vR 0, vI w] (qI (o_count K w) M) := by
  refine AM.mk (own := RX5) rfl sv_X5_count.1.2.2.2.2.2 (Nat.le_of_ble_eq_true rfl) rfl ?_
  have hI := CI_of hC h
  have ef := find_p K
  have hR : SR (find K) 16 0 0 := lives_SR hI.1 hI.2
  have hr := rootedNow_r hR.1
  have e5 := hC.2.1.2.1
  have e4 := hC.1.1.1
  have e9 := hC.1.2.1.1
  have e28 := hC.2.2.1.1
  have e10 := hC.2.2.2.2.1.2
  refine a_iload_n (kX5_count.at 0 rfl) 1 rfl ?_
  rcases sw0_8 (x := w) with h1_0 | h1_1 | h1_2 | h1_3 | h1_4 | h1_5 | h1_6 | h1_7 | h1_8 | h1_d
  · refine a_tabIn (off := 51) (tgt := 52) (kX5_count.at 1 rfl) (by omega) (by omega) (by rw [h1_0]; rfl) (by decide) ?_
    refine a_aload_n (kX5_count.at 2 rfl) 0 rfl ?_
    refine a_getR (kX5_count.at 3 rfl) fg_X5_10 ir_0_0 ?_
    refine a_getI (x := M 1 5) (kX5_count.at 4 rfl) fg_X5_224 ii_1_5 (rfl) ?_
    exact a_iretE (kX5_count.at 5 rfl) (by unfold o_count; first | (rw [if_pos (by omega)]; exact ⟨e5.trans ef.symm, rfl⟩) | (rw [if_neg (by omega)]; first | (rw [if_pos (by omega)]; exact ⟨e4, rfl⟩) | (rw [if_neg (by omega)]; first | (rw [if_pos (by omega)]; exact ⟨e9, rfl⟩) | (rw [if_neg (by omega)]; first | (rw [if_pos (by omega)]; unfold o_sum; exact ⟨if_pos (by omega), rfl⟩) | (rw [if_neg (by omega)]; first | (rw [if_pos (by omega)]; exact ⟨rfl, rfl⟩) | (rw [if_neg (by omega)]; first | (rw [if_pos (by omega)]; exact ⟨e28, rfl⟩) | (rw [if_neg (by omega)]; first | (rw [if_pos (by omega)]; exact ⟨e10, rfl⟩) | exact ⟨(if_neg (by omega)).symm, rfl⟩)))))))
  · refine a_tabIn (off := 59) (tgt := 60) (kX5_count.at 1 rfl) (by omega) (by omega) (by rw [h1_1]; rfl) (by decide) ?_
    refine a_aload_n (kX5_count.at 6 rfl) 0 rfl ?_
    refine a_getR (kX5_count.at 7 rfl) fg_X5_10 ir_0_0 ?_
    refine a_getI (x := M 1 4) (kX5_count.at 8 rfl) fg_X5_57 ii_1_4 (rfl) ?_
    exact a_iretE (kX5_count.at 9 rfl) (by unfold o_count; first | (rw [if_pos (by omega)]; exact ⟨e5.trans ef.symm, rfl⟩) | (rw [if_neg (by omega)]; first | (rw [if_pos (by omega)]; exact ⟨e4, rfl⟩) | (rw [if_neg (by omega)]; first | (rw [if_pos (by omega)]; exact ⟨e9, rfl⟩) | (rw [if_neg (by omega)]; first | (rw [if_pos (by omega)]; unfold o_sum; exact ⟨if_pos (by omega), rfl⟩) | (rw [if_neg (by omega)]; first | (rw [if_pos (by omega)]; exact ⟨rfl, rfl⟩) | (rw [if_neg (by omega)]; first | (rw [if_pos (by omega)]; exact ⟨e28, rfl⟩) | (rw [if_neg (by omega)]; first | (rw [if_pos (by omega)]; exact ⟨e10, rfl⟩) | exact ⟨(if_neg (by omega)).symm, rfl⟩)))))))
  · refine a_tabIn (off := 67) (tgt := 68) (kX5_count.at 1 rfl) (by omega) (by omega) (by rw [h1_2]; rfl) (by decide) ?_
    refine a_aload_n (kX5_count.at 10 rfl) 0 rfl ?_
    refine a_getR (kX5_count.at 11 rfl) fg_X5_19 ir_0_1 ?_
    refine a_getI (x := M 2 3) (kX5_count.at 12 rfl) fg_X5_91 ii_2_3 (rfl) ?_
    exact a_iretE (kX5_count.at 13 rfl) (by unfold o_count; first | (rw [if_pos (by omega)]; exact ⟨e5.trans ef.symm, rfl⟩) | (rw [if_neg (by omega)]; first | (rw [if_pos (by omega)]; exact ⟨e4, rfl⟩) | (rw [if_neg (by omega)]; first | (rw [if_pos (by omega)]; exact ⟨e9, rfl⟩) | (rw [if_neg (by omega)]; first | (rw [if_pos (by omega)]; unfold o_sum; exact ⟨if_pos (by omega), rfl⟩) | (rw [if_neg (by omega)]; first | (rw [if_pos (by omega)]; exact ⟨rfl, rfl⟩) | (rw [if_neg (by omega)]; first | (rw [if_pos (by omega)]; exact ⟨e28, rfl⟩) | (rw [if_neg (by omega)]; first | (rw [if_pos (by omega)]; exact ⟨e10, rfl⟩) | exact ⟨(if_neg (by omega)).symm, rfl⟩)))))))
  · refine a_tabIn (off := 75) (tgt := 76) (kX5_count.at 1 rfl) (by omega) (by omega) (by rw [h1_3]; rfl) (by decide) ?_
    refine a_aload_n (kX5_count.at 14 rfl) 0 rfl ?_
    refine a_iload_n (kX5_count.at 15 rfl) 1 rfl ?_
    refine a_iconst (kX5_count.at 16 rfl) rfl ?_
    refine a_isub (kX5_count.at 17 rfl) (inr (by omega)) ?_
    refine AW.callV (as := [vI (w - 3)]) (st := []) (kX5_count.at 18 rfl) ml_X5_255 sv_X5_sum (k := 0) (io_0) rfl rfl ⟨Nat.le_of_ble_eq_true rfl, Nat.le_of_ble_eq_true rfl⟩ ⟨Nat.le_refl _, Nat.le_refl _⟩ rfl rfl (Nat.le_of_ble_eq_true rfl) (k_sum G M K (w - 3) hC) (kIE ?_)
    exact a_iretE (kX5_count.at 19 rfl) (by unfold o_count; first | (rw [if_pos (by omega)]; exact ⟨e5.trans ef.symm, rfl⟩) | (rw [if_neg (by omega)]; first | (rw [if_pos (by omega)]; exact ⟨e4, rfl⟩) | (rw [if_neg (by omega)]; first | (rw [if_pos (by omega)]; exact ⟨e9, rfl⟩) | (rw [if_neg (by omega)]; first | (rw [if_pos (by omega)]; unfold o_sum; exact ⟨if_pos (by omega), rfl⟩) | (rw [if_neg (by omega)]; first | (rw [if_pos (by omega)]; exact ⟨rfl, rfl⟩) | (rw [if_neg (by omega)]; first | (rw [if_pos (by omega)]; exact ⟨e28, rfl⟩) | (rw [if_neg (by omega)]; first | (rw [if_pos (by omega)]; exact ⟨e10, rfl⟩) | exact ⟨(if_neg (by omega)).symm, rfl⟩)))))))
  · refine a_tabIn (off := 75) (tgt := 76) (kX5_count.at 1 rfl) (by omega) (by omega) (by rw [h1_4]; rfl) (by decide) ?_
    refine a_aload_n (kX5_count.at 14 rfl) 0 rfl ?_
    refine a_iload_n (kX5_count.at 15 rfl) 1 rfl ?_
    refine a_iconst (kX5_count.at 16 rfl) rfl ?_
    refine a_isub (kX5_count.at 17 rfl) (inr (by omega)) ?_
    refine AW.callV (as := [vI (w - 3)]) (st := []) (kX5_count.at 18 rfl) ml_X5_255 sv_X5_sum (k := 0) (io_0) rfl rfl ⟨Nat.le_of_ble_eq_true rfl, Nat.le_of_ble_eq_true rfl⟩ ⟨Nat.le_refl _, Nat.le_refl _⟩ rfl rfl (Nat.le_of_ble_eq_true rfl) (k_sum G M K (w - 3) hC) (kIE ?_)
    exact a_iretE (kX5_count.at 19 rfl) (by unfold o_count; first | (rw [if_pos (by omega)]; exact ⟨e5.trans ef.symm, rfl⟩) | (rw [if_neg (by omega)]; first | (rw [if_pos (by omega)]; exact ⟨e4, rfl⟩) | (rw [if_neg (by omega)]; first | (rw [if_pos (by omega)]; exact ⟨e9, rfl⟩) | (rw [if_neg (by omega)]; first | (rw [if_pos (by omega)]; unfold o_sum; exact ⟨if_pos (by omega), rfl⟩) | (rw [if_neg (by omega)]; first | (rw [if_pos (by omega)]; exact ⟨rfl, rfl⟩) | (rw [if_neg (by omega)]; first | (rw [if_pos (by omega)]; exact ⟨e28, rfl⟩) | (rw [if_neg (by omega)]; first | (rw [if_pos (by omega)]; exact ⟨e10, rfl⟩) | exact ⟨(if_neg (by omega)).symm, rfl⟩)))))))
  · refine a_tabIn (off := 75) (tgt := 76) (kX5_count.at 1 rfl) (by omega) (by omega) (by rw [h1_5]; rfl) (by decide) ?_
    refine a_aload_n (kX5_count.at 14 rfl) 0 rfl ?_
    refine a_iload_n (kX5_count.at 15 rfl) 1 rfl ?_
    refine a_iconst (kX5_count.at 16 rfl) rfl ?_
    refine a_isub (kX5_count.at 17 rfl) (inr (by omega)) ?_
    refine AW.callV (as := [vI (w - 3)]) (st := []) (kX5_count.at 18 rfl) ml_X5_255 sv_X5_sum (k := 0) (io_0) rfl rfl ⟨Nat.le_of_ble_eq_true rfl, Nat.le_of_ble_eq_true rfl⟩ ⟨Nat.le_refl _, Nat.le_refl _⟩ rfl rfl (Nat.le_of_ble_eq_true rfl) (k_sum G M K (w - 3) hC) (kIE ?_)
    exact a_iretE (kX5_count.at 19 rfl) (by unfold o_count; first | (rw [if_pos (by omega)]; exact ⟨e5.trans ef.symm, rfl⟩) | (rw [if_neg (by omega)]; first | (rw [if_pos (by omega)]; exact ⟨e4, rfl⟩) | (rw [if_neg (by omega)]; first | (rw [if_pos (by omega)]; exact ⟨e9, rfl⟩) | (rw [if_neg (by omega)]; first | (rw [if_pos (by omega)]; unfold o_sum; exact ⟨if_pos (by omega), rfl⟩) | (rw [if_neg (by omega)]; first | (rw [if_pos (by omega)]; exact ⟨rfl, rfl⟩) | (rw [if_neg (by omega)]; first | (rw [if_pos (by omega)]; exact ⟨e28, rfl⟩) | (rw [if_neg (by omega)]; first | (rw [if_pos (by omega)]; exact ⟨e10, rfl⟩) | exact ⟨(if_neg (by omega)).symm, rfl⟩)))))))
  · refine a_tabIn (off := 83) (tgt := 84) (kX5_count.at 1 rfl) (by omega) (by omega) (by rw [h1_6]; rfl) (by decide) ?_
    refine a_aload_n (kX5_count.at 20 rfl) 0 rfl ?_
    refine AW.callV (as := []) (st := []) (kX5_count.at 21 rfl) ml_X5_258 sv_X5_rooted (k := 0) (io_0) rfl rfl ⟨Nat.le_of_ble_eq_true rfl, Nat.le_of_ble_eq_true rfl⟩ ⟨Nat.le_refl _, Nat.le_refl _⟩ rfl rfl (Nat.le_of_ble_eq_true rfl) (k_rooted G M K hC h) (kIE ?_)
    refine AW.callS (as := [vI (rootedNow (find K))]) (st := []) (kX5_count.at 22 rfl) ml_X5_181 ss_J6_bitCount_0f7a4 ⟨Nat.le_of_ble_eq_true rfl, Nat.le_of_ble_eq_true rfl⟩ ⟨Nat.le_refl _, Nat.le_refl _⟩ rfl rfl (Nat.le_of_ble_eq_true rfl) (k_bitCount G M (rootedNow (find K)) hr) (kIE ?_)
    exact a_iretE (kX5_count.at 23 rfl) (by unfold o_count; first | (rw [if_pos (by omega)]; exact ⟨e5.trans ef.symm, rfl⟩) | (rw [if_neg (by omega)]; first | (rw [if_pos (by omega)]; exact ⟨e4, rfl⟩) | (rw [if_neg (by omega)]; first | (rw [if_pos (by omega)]; exact ⟨e9, rfl⟩) | (rw [if_neg (by omega)]; first | (rw [if_pos (by omega)]; unfold o_sum; exact ⟨if_pos (by omega), rfl⟩) | (rw [if_neg (by omega)]; first | (rw [if_pos (by omega)]; exact ⟨rfl, rfl⟩) | (rw [if_neg (by omega)]; first | (rw [if_pos (by omega)]; exact ⟨e28, rfl⟩) | (rw [if_neg (by omega)]; first | (rw [if_pos (by omega)]; exact ⟨e10, rfl⟩) | exact ⟨(if_neg (by omega)).symm, rfl⟩)))))))
  · refine a_tabIn (off := 91) (tgt := 92) (kX5_count.at 1 rfl) (by omega) (by omega) (by rw [h1_7]; rfl) (by decide) ?_
    refine a_aload_n (kX5_count.at 24 rfl) 0 rfl ?_
    refine a_getR (kX5_count.at 25 rfl) fg_X5_23 ir_0_2 ?_
    refine a_getI (x := M 3 3) (kX5_count.at 26 rfl) fg_X5_91 ii_3_3 (rfl) ?_
    exact a_iretE (kX5_count.at 27 rfl) (by unfold o_count; first | (rw [if_pos (by omega)]; exact ⟨e5.trans ef.symm, rfl⟩) | (rw [if_neg (by omega)]; first | (rw [if_pos (by omega)]; exact ⟨e4, rfl⟩) | (rw [if_neg (by omega)]; first | (rw [if_pos (by omega)]; exact ⟨e9, rfl⟩) | (rw [if_neg (by omega)]; first | (rw [if_pos (by omega)]; unfold o_sum; exact ⟨if_pos (by omega), rfl⟩) | (rw [if_neg (by omega)]; first | (rw [if_pos (by omega)]; exact ⟨rfl, rfl⟩) | (rw [if_neg (by omega)]; first | (rw [if_pos (by omega)]; exact ⟨e28, rfl⟩) | (rw [if_neg (by omega)]; first | (rw [if_pos (by omega)]; exact ⟨e10, rfl⟩) | exact ⟨(if_neg (by omega)).symm, rfl⟩)))))))
  · refine a_tabIn (off := 99) (tgt := 100) (kX5_count.at 1 rfl) (by omega) (by omega) (by rw [h1_8]; rfl) (by decide) ?_
    refine a_aload_n (kX5_count.at 28 rfl) 0 rfl ?_
    refine a_getI (x := M 0 10) (kX5_count.at 29 rfl) fg_X5_238 ii_0_10 (rfl) ?_
    exact a_iretE (kX5_count.at 30 rfl) (by unfold o_count; first | (rw [if_pos (by omega)]; exact ⟨e5.trans ef.symm, rfl⟩) | (rw [if_neg (by omega)]; first | (rw [if_pos (by omega)]; exact ⟨e4, rfl⟩) | (rw [if_neg (by omega)]; first | (rw [if_pos (by omega)]; exact ⟨e9, rfl⟩) | (rw [if_neg (by omega)]; first | (rw [if_pos (by omega)]; unfold o_sum; exact ⟨if_pos (by omega), rfl⟩) | (rw [if_neg (by omega)]; first | (rw [if_pos (by omega)]; exact ⟨rfl, rfl⟩) | (rw [if_neg (by omega)]; first | (rw [if_pos (by omega)]; exact ⟨e28, rfl⟩) | (rw [if_neg (by omega)]; first | (rw [if_pos (by omega)]; exact ⟨e10, rfl⟩) | exact ⟨(if_neg (by omega)).symm, rfl⟩)))))))
  · refine a_tabOut (tgt := 105) (kX5_count.at 1 rfl) (by omega) (by decide) ?_
    refine a_bipush (kX5_count.at 31 rfl) rfl rfl ?_
    exact a_iretE (kX5_count.at 32 rfl) (by unfold o_count; first | (rw [if_pos (by omega)]; exact ⟨e5.trans ef.symm, rfl⟩) | (rw [if_neg (by omega)]; first | (rw [if_pos (by omega)]; exact ⟨e4, rfl⟩) | (rw [if_neg (by omega)]; first | (rw [if_pos (by omega)]; exact ⟨e9, rfl⟩) | (rw [if_neg (by omega)]; first | (rw [if_pos (by omega)]; unfold o_sum; exact ⟨if_pos (by omega), rfl⟩) | (rw [if_neg (by omega)]; first | (rw [if_pos (by omega)]; exact ⟨rfl, rfl⟩) | (rw [if_neg (by omega)]; first | (rw [if_pos (by omega)]; exact ⟨e28, rfl⟩) | (rw [if_neg (by omega)]; first | (rw [if_pos (by omega)]; exact ⟨e10, rfl⟩) | exact ⟨(if_neg (by omega)).symm, rfl⟩)))))))
