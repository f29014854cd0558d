/-! ===== the class: house, pairs ===== -/
set_option maxHeartbeats 4000000 in
set_option maxRecDepth 100000 in
theorem l_khouse (G : GT) (M K : Mem) (q x : Int) (h8 : M 4 8 = K 44 7) (hp8 : 0 ≤ K 44 7 ∧ K 44 7 ≤ 8) (hT : TR M 0 K 16) (hd : ∀ a b, 0 ≤ a → a < K 44 7 → 0 ≤ b → b < K 44 7 → K 56 (8 * q + a) = K 56 (8 * q + b) → a = b) (hq : 0 ≤ q ∧ q ≤ 15) (hlohi : (0 : Int) ≤ (K 44 7)) (kk : (∀ j, 0 ≤ j → j < (K 44 7) → K 56 (8 * q + j) ≠ x) → AW G RX5 cX5_house 4 (some .int) (XM G 1 (qI (houseOf K q x) M)) 55 [(0, vR 0), (1, vI q), (2, vI x), (3, vI (K 44 7))] [] M) : AW G RX5 cX5_house 4 (some .int) (XM G 1 (qI (houseOf K q x) M)) 23 [(0, vR 0), (1, vI q), (2, vI x), (3, vI 0)] [] M := by
  have key : ∀ (nn : Nat) (p : Int) , (0 : Int) ≤ p → p ≤ (K 44 7) → (∀ j, 0 ≤ j → j < p → K 56 (8 * q + j) ≠ x) → (K 44 7) - p < nn → AW G RX5 cX5_house 4 (some .int) (XM G 1 (qI (houseOf K q x) M)) 23 [(0, vR 0), (1, vI q), (2, vI x), (3, vI p)] [] M := by
    intro nn
    induction nn with
    | zero => intro p  hk0 hk1  hI hn; omega
    | succ nn ih =>
      intro p  hk0 hk1  hI hn
      refine a_iload_n (kX5_house.at 12 rfl) 3 rfl ?_
      refine a_aload_n (kX5_house.at 13 rfl) 0 rfl ?_
      refine a_getR (kX5_house.at 14 rfl) fg_X5_29 ir_0_3 ?_
      refine a_getI (x := M 4 8) (kX5_house.at 15 rfl) fg_X5_124 ii_4_8 (rfl) ?_
      refine a_icmpge (tgt := 55) (kX5_house.at 16 rfl) (by decide) (fun h31 => ?_) (fun h31 => ?_)
      · obtain rfl : p = K 44 7 := by omega
        exact kk hI
      · refine a_aload_n (kX5_house.at 17 rfl) 0 rfl ?_
        refine a_getR (kX5_house.at 18 rfl) fg_X5_29 ir_0_3 ?_
        refine a_iload_n (kX5_house.at 19 rfl) 1 rfl ?_
        refine a_iload_n (kX5_house.at 20 rfl) 3 rfl ?_
        refine AW.callV (as := [vI q, vI p]) (st := []) (kX5_house.at 21 rfl) ml_X5_111 sv_X1_homeBehind (k := 4) (io_4) rfl rfl ⟨Nat.le_of_ble_eq_true rfl, Nat.le_of_ble_eq_true rfl⟩ ⟨Nat.le_refl _, Nat.le_refl _⟩ rfl rfl (Nat.le_of_ble_eq_true rfl) (k_homeBehind G M K 0 q p (by omega) hT (by omega) hq (by omega)) (kIE ?_)
        refine a_iload_n (kX5_house.at 22 rfl) 2 rfl ?_
        refine a_icmpne (tgt := 49) (kX5_house.at 23 rfl) (by decide) (fun h44 => ?_) (fun h44 => ?_)
        · refine a_iinc (ls' := [(0, vR 0), (1, vI q), (2, vI x), (3, vI (p + 1))]) (kX5_house.at 26 rfl) 3 rfl (by decide) (inr (by omega)) rfl ?_
          refine a_goto (tgt := 23) (kX5_house.at 27 rfl) (by decide) ?_
          exact ih ((p + 1))  (by omega) (by omega) (fun j a b => if e : j = p then (by rw [e]; exact h44) else hI j a (by omega)) (by omega)
        · refine a_iload_n (kX5_house.at 24 rfl) 3 rfl ?_
          exact a_iretE (kX5_house.at 25 rfl) (⟨(houseOf_at hp8.1 hd (by omega) h44).symm, rfl⟩)
  exact key ((K 44 7) - (0) + 1 : Int).toNat (0)  (Int.le_refl _) hlohi  (fun j a b => by omega) (by omega)
theorem k_house (G : GT) (M K : Mem) (q x : Int) (hC : Cp M K) (h : MB K) : AM G yX5_house cX5_house 4 (some .int) 1 M [vR 0, vI q, vI x] (qI (o_house K q x) M) := by
  refine AM.mk (own := RX5) rfl sv_X5_house.1.2.2.2.2.2 (Nat.le_of_ble_eq_true rfl) rfl ?_
  have hI := CI_of hC h
  have hD := (lives_DT hI.1 hI.2).1
  have ef := find_p K
  have hp := hI.1.1
  have h8 := hC.2.2.2.1.1.1
  refine a_iload_n (kX5_house.at 0 rfl) 1 rfl ?_
  refine a_bipush (kX5_house.at 1 rfl) rfl rfl ?_
  refine AW.callS (as := [vI q, vI 16]) (st := []) (kX5_house.at 2 rfl) ml_X5_74 ss_X5_isBelow ⟨Nat.le_of_ble_eq_true rfl, Nat.le_of_ble_eq_true rfl⟩ ⟨Nat.le_refl _, Nat.le_refl _⟩ rfl rfl (Nat.le_of_ble_eq_true rfl) (k_isBelow G M q 16) (kIE ?_)
  refine a_ifeqB (tgt := 18) (kX5_house.at 3 rfl) (by decide) (fun h6 => ?_) (fun h6 => ?_)
  · refine a_bipush (kX5_house.at 8 rfl) rfl rfl ?_
    exact a_iretE (kX5_house.at 9 rfl) (by first | exact ⟨(if_neg (by omega)).symm, rfl⟩ | exact ⟨((houseOf_none (by omega)).mpr hN).symm, rfl⟩)
  · refine a_iload_n (kX5_house.at 4 rfl) 2 rfl ?_
    refine a_bipush (kX5_house.at 5 rfl) rfl rfl ?_
    refine AW.callS (as := [vI x, vI 10]) (st := []) (kX5_house.at 6 rfl) ml_X5_74 ss_X5_isBelow ⟨Nat.le_of_ble_eq_true rfl, Nat.le_of_ble_eq_true rfl⟩ ⟨Nat.le_refl _, Nat.le_refl _⟩ rfl rfl (Nat.le_of_ble_eq_true rfl) (k_isBelow G M x 10) (kIE ?_)
    refine a_ifneB (tgt := 21) (kX5_house.at 7 rfl) (by decide) (fun h15 => ?_) (fun h15 => ?_)
    · have eo : o_house K q x = houseOf (find K) q x := if_pos (by omega)
      rw [eo]
      refine a_iconst (kX5_house.at 10 rfl) rfl ?_
      refine a_istore_n (ls' := [(0, vR 0), (1, vI q), (2, vI x), (3, vI 0)]) (kX5_house.at 11 rfl) (by decide) rfl ?_
      refine l_khouse G M (find K) q x h8 (by omega) hC.2.2.2.1.2 (fun a b c d e f g => hD q a b (by omega) (by omega) c (by omega) e (by omega) g) (by omega) (by omega) ?_
      intro hN
      show AW _ _ _ _ _ _ 55 [(0, vR 0), (1, vI q), (2, vI x), (3, vI (find K 44 7))] [] M
      refine a_iconst (kX5_house.at 28 rfl) rfl ?_
      exact a_iretE (kX5_house.at 29 rfl) (by first | exact ⟨(if_neg (by omega)).symm, rfl⟩ | exact ⟨((houseOf_none (by omega)).mpr hN).symm, rfl⟩)
    · refine a_bipush (kX5_house.at 8 rfl) rfl rfl ?_
      exact a_iretE (kX5_house.at 9 rfl) (by first | exact ⟨(if_neg (by omega)).symm, rfl⟩ | exact ⟨((houseOf_none (by omega)).mpr hN).symm, rfl⟩)
set_option maxHeartbeats 4000000 in
set_option maxRecDepth 100000 in
theorem l_kpairsB (G : GT) (M K : Mem) (q w a n0 : Int) (P : Option AV → Mem → Prop) (hS : SQ M K) (hp8 : 0 ≤ K 44 7 ∧ K 44 7 ≤ 8) (hT : TR M 0 K 16) (hq : 0 ≤ q ∧ q ≤ 15) (ha : 0 ≤ a ∧ a < K 44 7) (hn : 0 ≤ n0 ∧ n0 ≤ 1000) (hlohi : ((a + 1) : Int) ≤ (K 44 7)) (kk : (0 ≤ (forR (a + 1) (K 44 7) (prB K q w a) n0) ∧ (forR (a + 1) (K 44 7) (prB K q w a) n0) ≤ n0 + ((K 44 7) - a)) → AW G RX5 cX5_pairs 6 (some .int) (XM G 2 P) 98 [(0, vR 0), (1, vI q), (2, vI w), (3, vI (forR (a + 1) (K 44 7) (prB K q w a) n0)), (4, vI a), (5, vI (K 44 7))] [] M) : AW G RX5 cX5_pairs 6 (some .int) (XM G 2 P) 43 [(0, vR 0), (1, vI q), (2, vI w), (3, vI n0), (4, vI a), (5, vI (a + 1))] [] M := by
  have key : ∀ (nn : Nat) (b : Int) (n : Int), ((a + 1) : Int) ≤ b → b ≤ (K 44 7) → n = forR (a + 1) b (prB K q w a) n0 → (0 ≤ n ∧ n ≤ n0 + (b - a)) → (K 44 7) - b < nn → AW G RX5 cX5_pairs 6 (some .int) (XM G 2 P) 43 [(0, vR 0), (1, vI q), (2, vI w), (3, vI n), (4, vI a), (5, vI b)] [] M := by
    intro nn
    induction nn with
    | zero => intro b n hk0 hk1 e_n hb hn; omega
    | succ nn ih =>
      intro b n hk0 hk1 e_n hb hn
      have h8 : M 4 8 = K 44 7 := hS.1
      refine a_iload (kX5_pairs.at 23 rfl) 5 rfl ?_
      refine a_aload_n (kX5_pairs.at 24 rfl) 0 rfl ?_
      refine a_getR (kX5_pairs.at 25 rfl) fg_X5_29 ir_0_3 ?_
      refine a_getI (x := M 4 8) (kX5_pairs.at 26 rfl) fg_X5_124 ii_4_8 (rfl) ?_
      refine a_icmpge (tgt := 98) (kX5_pairs.at 27 rfl) (by decide) (fun h52 => ?_) (fun h52 => ?_)
      · subst e_n
        obtain rfl : b = K 44 7 := by omega
        exact kk hb
      · refine a_aload_n (kX5_pairs.at 28 rfl) 0 rfl ?_
        refine a_getR (kX5_pairs.at 29 rfl) fg_X5_29 ir_0_3 ?_
        refine a_iload_n (kX5_pairs.at 30 rfl) 1 rfl ?_
        refine a_iload (kX5_pairs.at 31 rfl) 4 rfl ?_
        refine a_iload (kX5_pairs.at 32 rfl) 5 rfl ?_
        refine AW.callV (as := [vI q, vI a, vI b]) (st := []) (kX5_pairs.at 33 rfl) ml_X5_127 sv_X1_agreeBehind (k := 4) (io_4) rfl rfl ⟨Nat.le_of_ble_eq_true rfl, Nat.le_of_ble_eq_true rfl⟩ ⟨Nat.le_refl _, Nat.le_refl _⟩ rfl rfl (Nat.le_of_ble_eq_true rfl) (k_agreeQ G M K q a b hS hT (by omega) hq ha (by omega)) (kIE ?_)
        refine a_ifeqB (tgt := 92) (kX5_pairs.at 34 rfl) (by decide) (fun h67 => ?_) (fun h67 => ?_)
        · refine a_iinc (ls' := [(0, vR 0), (1, vI q), (2, vI w), (3, vI n), (4, vI a), (5, vI (b + 1))]) (kX5_pairs.at 45 rfl) 5 rfl (by decide) (inr (by omega)) rfl ?_
          refine a_goto (tgt := 43) (kX5_pairs.at 46 rfl) (by decide) ?_
          exact ih ((b + 1)) (n) (by omega) (by omega) (by rw [forR_succ hk0, ← e_n] <;> (clear ih kk e_n; unfold prB; first | exact ((if_neg (fun z => h67 z.1)).trans (Int.add_zero n)).symm | (have z1 : apart (K 56 (8 * q + a)) (K 56 (8 * q + b)) = 1 := h86; exact (if_pos ⟨h67, Or.inr z1⟩).symm) | (have z1 : ¬ apart (K 56 (8 * q + a)) (K 56 (8 * q + b)) = 1 := h86; exact ((if_neg (fun z => z.2.elim h71 z1)).trans (Int.add_zero n)).symm) | (have z1 : w = 0 := h71; exact (if_pos ⟨h67, Or.inl z1⟩).symm))) (by omega) (by omega)
        · refine a_iload_n (kX5_pairs.at 35 rfl) 2 rfl ?_
          refine a_ifeq (tgt := 89) (kX5_pairs.at 36 rfl) (by decide) (fun h71 => ?_) (fun h71 => ?_)
          · refine a_iinc (ls' := [(0, vR 0), (1, vI q), (2, vI w), (3, vI (n + 1)), (4, vI a), (5, vI b)]) (kX5_pairs.at 44 rfl) 3 rfl (by decide) (inr (by omega)) rfl ?_
            refine a_iinc (ls' := [(0, vR 0), (1, vI q), (2, vI w), (3, vI (n + 1)), (4, vI a), (5, vI (b + 1))]) (kX5_pairs.at 45 rfl) 5 rfl (by decide) (inr (by omega)) rfl ?_
            refine a_goto (tgt := 43) (kX5_pairs.at 46 rfl) (by decide) ?_
            exact ih ((b + 1)) ((n + 1)) (by omega) (by omega) (by rw [forR_succ hk0, ← e_n] <;> (clear ih kk e_n; unfold prB; first | exact ((if_neg (fun z => h67 z.1)).trans (Int.add_zero n)).symm | (have z1 : apart (K 56 (8 * q + a)) (K 56 (8 * q + b)) = 1 := h86; exact (if_pos ⟨h67, Or.inr z1⟩).symm) | (have z1 : ¬ apart (K 56 (8 * q + a)) (K 56 (8 * q + b)) = 1 := h86; exact ((if_neg (fun z => z.2.elim h71 z1)).trans (Int.add_zero n)).symm) | (have z1 : w = 0 := h71; exact (if_pos ⟨h67, Or.inl z1⟩).symm))) (by omega) (by omega)
          · refine a_aload_n (kX5_pairs.at 37 rfl) 0 rfl ?_
            refine a_getR (kX5_pairs.at 38 rfl) fg_X5_29 ir_0_3 ?_
            refine a_iload_n (kX5_pairs.at 39 rfl) 1 rfl ?_
            refine a_iload (kX5_pairs.at 40 rfl) 4 rfl ?_
            refine a_iload (kX5_pairs.at 41 rfl) 5 rfl ?_
            refine AW.callV (as := [vI q, vI a, vI b]) (st := []) (kX5_pairs.at 42 rfl) ml_X5_130 sv_X1_nearBehind (k := 4) (io_4) rfl rfl ⟨Nat.le_of_ble_eq_true rfl, Nat.le_of_ble_eq_true rfl⟩ ⟨Nat.le_refl _, Nat.le_refl _⟩ rfl rfl (Nat.le_of_ble_eq_true rfl) (k_nearBehind G M K 0 q a b (by omega) hT (by omega) hq ha (by omega)) (kIE ?_)
            refine a_ifeqB (tgt := 92) (kX5_pairs.at 43 rfl) (by decide) (fun h86 => ?_) (fun h86 => ?_)
            · refine a_iinc (ls' := [(0, vR 0), (1, vI q), (2, vI w), (3, vI n), (4, vI a), (5, vI (b + 1))]) (kX5_pairs.at 45 rfl) 5 rfl (by decide) (inr (by omega)) rfl ?_
              refine a_goto (tgt := 43) (kX5_pairs.at 46 rfl) (by decide) ?_
              exact ih ((b + 1)) (n) (by omega) (by omega) (by rw [forR_succ hk0, ← e_n] <;> (clear ih kk e_n; unfold prB; first | exact ((if_neg (fun z => h67 z.1)).trans (Int.add_zero n)).symm | (have z1 : apart (K 56 (8 * q + a)) (K 56 (8 * q + b)) = 1 := h86; exact (if_pos ⟨h67, Or.inr z1⟩).symm) | (have z1 : ¬ apart (K 56 (8 * q + a)) (K 56 (8 * q + b)) = 1 := h86; exact ((if_neg (fun z => z.2.elim h71 z1)).trans (Int.add_zero n)).symm) | (have z1 : w = 0 := h71; exact (if_pos ⟨h67, Or.inl z1⟩).symm))) (by omega) (by omega)
            · refine a_iinc (ls' := [(0, vR 0), (1, vI q), (2, vI w), (3, vI (n + 1)), (4, vI a), (5, vI b)]) (kX5_pairs.at 44 rfl) 3 rfl (by decide) (inr (by omega)) rfl ?_
              refine a_iinc (ls' := [(0, vR 0), (1, vI q), (2, vI w), (3, vI (n + 1)), (4, vI a), (5, vI (b + 1))]) (kX5_pairs.at 45 rfl) 5 rfl (by decide) (inr (by omega)) rfl ?_
              refine a_goto (tgt := 43) (kX5_pairs.at 46 rfl) (by decide) ?_
              exact ih ((b + 1)) ((n + 1)) (by omega) (by omega) (by rw [forR_succ hk0, ← e_n] <;> (clear ih kk e_n; unfold prB; first | exact ((if_neg (fun z => h67 z.1)).trans (Int.add_zero n)).symm | (have z1 : apart (K 56 (8 * q + a)) (K 56 (8 * q + b)) = 1 := h86; exact (if_pos ⟨h67, Or.inr z1⟩).symm) | (have z1 : ¬ apart (K 56 (8 * q + a)) (K 56 (8 * q + b)) = 1 := h86; exact ((if_neg (fun z => z.2.elim h71 z1)).trans (Int.add_zero n)).symm) | (have z1 : w = 0 := h71; exact (if_pos ⟨h67, Or.inl z1⟩).symm))) (by omega) (by omega)
  exact key ((K 44 7) - (a + 1) + 1 : Int).toNat (a + 1) n0 (Int.le_refl _) hlohi (forR_nil (Int.le_refl _)).symm (by omega) (by omega)
set_option maxHeartbeats 4000000 in
set_option maxRecDepth 100000 in
theorem l_kpairsA (G : GT) (M K : Mem) (q w : Int) (P : Option AV → Mem → Prop) (hS : SQ M K) (hp8 : 0 ≤ K 44 7 ∧ K 44 7 ≤ 8) (hT : TR M 0 K 16) (hq : 0 ≤ q ∧ q ≤ 15) (hlohi : (0 : Int) ≤ (K 44 7)) (kk : (0 ≤ (forR 0 (K 44 7) (prA K q w) 0) ∧ (forR 0 (K 44 7) (prA K q w) 0) ≤ 9 * (K 44 7)) → AW G RX5 cX5_pairs 6 (some .int) (XM G 2 P) 104 [(0, vR 0), (1, vI q), (2, vI w), (3, vI (forR 0 (K 44 7) (prA K q w) 0)), (4, vI (K 44 7))] [] M) : AW G RX5 cX5_pairs 6 (some .int) (XM G 2 P) 25 [(0, vR 0), (1, vI q), (2, vI w), (3, vI 0), (4, vI 0)] [] M := by
  have key : ∀ (nn : Nat) (a : Int) (n : Int), (0 : Int) ≤ a → a ≤ (K 44 7) → n = forR 0 a (prA K q w) 0 → (0 ≤ n ∧ n ≤ 9 * a) → (K 44 7) - a < nn → AW G RX5 cX5_pairs 6 (some .int) (XM G 2 P) 25 [(0, vR 0), (1, vI q), (2, vI w), (3, vI n), (4, vI a)] [] M := by
    intro nn
    induction nn with
    | zero => intro a n hk0 hk1 e_n hb hn; omega
    | succ nn ih =>
      intro a n hk0 hk1 e_n hb hn
      have h8 : M 4 8 = K 44 7 := hS.1
      refine a_iload (kX5_pairs.at 14 rfl) 4 rfl ?_
      refine a_aload_n (kX5_pairs.at 15 rfl) 0 rfl ?_
      refine a_getR (kX5_pairs.at 16 rfl) fg_X5_29 ir_0_3 ?_
      refine a_getI (x := M 4 8) (kX5_pairs.at 17 rfl) fg_X5_124 ii_4_8 (rfl) ?_
      refine a_icmpge (tgt := 104) (kX5_pairs.at 18 rfl) (by decide) (fun h34 => ?_) (fun h34 => ?_)
      · subst e_n
        obtain rfl : a = K 44 7 := by omega
        exact kk hb
      · refine a_iload (kX5_pairs.at 19 rfl) 4 rfl ?_
        refine a_iconst (kX5_pairs.at 20 rfl) rfl ?_
        refine a_iadd (kX5_pairs.at 21 rfl) (inr (by omega)) ?_
        refine a_istore (ls' := [(0, vR 0), (1, vI q), (2, vI w), (3, vI n), (4, vI a), (5, vI (a + 1))]) (kX5_pairs.at 22 rfl) (by decide) rfl ?_
        refine l_kpairsB G M K q w a n _ hS hp8 hT hq (by omega) (by omega) (by omega) ?_
        intro hbb
        show AW _ _ _ _ _ _ 98 [(0, vR 0), (1, vI q), (2, vI w), (3, vI (forR (a + 1) (K 44 7) (prB K q w a) n)), (4, vI a), (5, vI (K 44 7))] [] M
        refine a_iinc (ls' := [(0, vR 0), (1, vI q), (2, vI w), (3, vI (forR (a + 1) (K 44 7) (prB K q w a) n)), (4, vI (a + 1)), (5, vI (K 44 7))]) (kX5_pairs.at 47 rfl) 4 rfl (by decide) (inr (by omega)) rfl ?_
        refine a_goto (tgt := 25) (kX5_pairs.at 48 rfl) (by decide) ?_
        refine AW.loc (ls' := [(0, vR 0), (1, vI q), (2, vI w), (3, vI (forR (a + 1) (K 44 7) (prB K q w a) n)), (4, vI (a + 1))]) [0, 1, 2, 3, 4] rfl ?_
        exact ih ((a + 1)) ((forR (a + 1) (K 44 7) (prB K q w a) n)) (by omega) (by omega) (by rw [forR_succ hk0, ← e_n] <;> (clear ih kk e_n; rfl)) (by (have hbb : 0 ≤ forR (a + 1) (K 44 7) (prB K q w a) n ∧ forR (a + 1) (K 44 7) (prB K q w a) n ≤ n + (K 44 7 - a) := hbb); omega) (by omega)
  exact key ((K 44 7) - (0) + 1 : Int).toNat (0) 0 (Int.le_refl _) hlohi (forR_nil (Int.le_refl _)).symm (by omega) (by omega)
theorem k_pairs (G : GT) (M K : Mem) (q w : Int) (hC : Cp M K) (h : MB K) : AM G yX5_pairs cX5_pairs 6 (some .int) 2 M [vR 0, vI q, vI w] (qI (o_pairs K q w) M) := by
  refine AM.mk (own := RX5) rfl sv_X5_pairs.1.2.2.2.2.2 (Nat.le_of_ble_eq_true rfl) rfl ?_
  have hI := CI_of hC h
  have ef := find_p K
  have hp := hI.1.1
  refine a_iload_n (kX5_pairs.at 0 rfl) 1 rfl ?_
  refine a_bipush (kX5_pairs.at 1 rfl) rfl rfl ?_
  refine AW.callS (as := [vI q, vI 16]) (st := []) (kX5_pairs.at 2 rfl) ml_X5_74 ss_X5_isBelow ⟨Nat.le_of_ble_eq_true rfl, Nat.le_of_ble_eq_true rfl⟩ ⟨Nat.le_refl _, Nat.le_refl _⟩ rfl rfl (Nat.le_of_ble_eq_true rfl) (k_isBelow G M q 16) (kIE ?_)
  refine a_ifeqB (tgt := 17) (kX5_pairs.at 3 rfl) (by decide) (fun h6 => ?_) (fun h6 => ?_)
  · refine a_bipush (kX5_pairs.at 8 rfl) rfl rfl ?_
    exact a_iretE (kX5_pairs.at 9 rfl) (by unfold o_pairs; first | exact ⟨(if_neg (by omega)).symm, rfl⟩ | exact ⟨(if_pos (by omega)).symm, rfl⟩)
  · refine a_iload_n (kX5_pairs.at 4 rfl) 2 rfl ?_
    refine a_iconst (kX5_pairs.at 5 rfl) rfl ?_
    refine AW.callS (as := [vI w, vI 2]) (st := []) (kX5_pairs.at 6 rfl) ml_X5_74 ss_X5_isBelow ⟨Nat.le_of_ble_eq_true rfl, Nat.le_of_ble_eq_true rfl⟩ ⟨Nat.le_refl _, Nat.le_refl _⟩ rfl rfl (Nat.le_of_ble_eq_true rfl) (k_isBelow G M w 2) (kIE ?_)
    refine a_ifneB (tgt := 20) (kX5_pairs.at 7 rfl) (by decide) (fun h14 => ?_) (fun h14 => ?_)
    · refine a_iconst (kX5_pairs.at 10 rfl) rfl ?_
      refine a_istore_n (ls' := [(0, vR 0), (1, vI q), (2, vI w), (3, vI 0)]) (kX5_pairs.at 11 rfl) (by decide) rfl ?_
      refine a_iconst (kX5_pairs.at 12 rfl) rfl ?_
      refine a_istore (ls' := [(0, vR 0), (1, vI q), (2, vI w), (3, vI 0), (4, vI 0)]) (kX5_pairs.at 13 rfl) (by decide) rfl ?_
      refine l_kpairsA G M (find K) q w _ hC.2.2.2.1.1 (by omega) hC.2.2.2.1.2 (by omega) (by omega) ?_
      intro hb
      show AW _ _ _ _ _ _ 104 [(0, vR 0), (1, vI q), (2, vI w), (3, vI (pairsOf (find K) q w)), (4, vI (find K 44 7))] [] M
      refine a_iload_n (kX5_pairs.at 49 rfl) 3 rfl ?_
      exact a_iretE (kX5_pairs.at 50 rfl) (by unfold o_pairs; first | exact ⟨(if_neg (by omega)).symm, rfl⟩ | exact ⟨(if_pos (by omega)).symm, rfl⟩)
    · refine a_bipush (kX5_pairs.at 8 rfl) rfl rfl ?_
      exact a_iretE (kX5_pairs.at 9 rfl) (by unfold o_pairs; first | exact ⟨(if_neg (by omega)).symm, rfl⟩ | exact ⟨(if_pos (by omega)).symm, rfl⟩)
