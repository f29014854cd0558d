/-! ===== the class: loading a course ===== -/
theorem k_plan (G : GT) (M : Mem) (t : Nat) (kind q p : Int) (ht : t < 2) (hk : 0 ≤ kind ∧ kind ≤ 3) (hq : 0 ≤ q ∧ q ≤ 15) (hp : 0 ≤ p ∧ p ≤ 7) : AM G yX1_plan cX1_plan 4 none 0 M [vR (4 + t), vI kind, vI q, vI p] (qV (upm M (27 + 8 * t) q (plS (M (27 + 8 * t) q) kind p))) := by
  refine AM.mk (own := RX1) rfl sv_X1_plan.1.2.2.2.2.2 (Nat.le_of_ble_eq_true rfl) rfl ?_
  refine a_iload_n (kX1_plan.at 0 rfl) 1 rfl ?_
  refine a_iconst (kX1_plan.at 1 rfl) rfl ?_
  refine a_icmpne (tgt := 19) (kX1_plan.at 2 rfl) (by decide) (fun h2 => ?_) (fun h2 => ?_)
  · refine a_aload_n (kX1_plan.at 12 rfl) 0 rfl ?_
    refine a_getR (kX1_plan.at 13 rfl) fg_X1_21 (iR_C3 ht) ?_
    refine a_iload_n (kX1_plan.at 14 rfl) 2 rfl ?_
    refine a_dup2 (kX1_plan.at 15 rfl) rfl rfl ?_
    refine a_iald (x := M (27 + 8 * t) q) (kX1_plan.at 16 rfl) (iA_C3 ht) (by omega) (rfl) ?_
    refine a_iconst (kX1_plan.at 17 rfl) rfl ?_
    refine a_iconst (kX1_plan.at 18 rfl) rfl ?_
    refine a_iload_n (kX1_plan.at 19 rfl) 3 rfl ?_
    refine a_imul (kX1_plan.at 20 rfl) (inr (by omega)) ?_
    refine a_iload_n (kX1_plan.at 21 rfl) 1 rfl ?_
    refine a_iadd (kX1_plan.at 22 rfl) (inr (by omega)) ?_
    refine a_ishl (kX1_plan.at 23 rfl) ?_
    refine a_ixor (kX1_plan.at 24 rfl) ?_
    refine a_iast (kX1_plan.at 25 rfl) (iA_C3 ht) (by omega) ?_
    exact a_vretE (kX1_plan.at 26 rfl) (by unfold plS; first | rw [if_pos h2] | rw [if_neg h2])
  · refine a_aload_n (kX1_plan.at 3 rfl) 0 rfl ?_
    refine a_getR (kX1_plan.at 4 rfl) fg_X1_21 (iR_C3 ht) ?_
    refine a_iload_n (kX1_plan.at 5 rfl) 2 rfl ?_
    refine a_dup2 (kX1_plan.at 6 rfl) rfl rfl ?_
    refine a_iald (x := M (27 + 8 * t) q) (kX1_plan.at 7 rfl) (iA_C3 ht) (by omega) (rfl) ?_
    refine a_ldc (kX1_plan.at 8 rfl) cn_X1_80 (16777216) rfl rfl ?_
    refine a_ior (kX1_plan.at 9 rfl) ?_
    refine a_iast (kX1_plan.at 10 rfl) (iA_C3 ht) (by omega) ?_
    refine a_goto (tgt := 35) (kX1_plan.at 11 rfl) (by decide) ?_
    exact a_vretE (kX1_plan.at 26 rfl) (by unfold plS; first | rw [if_pos h2] | rw [if_neg h2])
noncomputable def pxF (M : Mem) (sub q : Int) : Int → Int → Int := fun e w => if isIn sub e = true ∧ M 19 e = q then plS w (M 18 e) (M 20 e) else w
noncomputable def plX (M : Mem) (sub q : Int) : Int := forR 0 (M 2 3) (pxF M sub q) 0
/-- events of the class are events -/
noncomputable def EC (M : Mem) : Prop := (0 ≤ M 2 3 ∧ M 2 3 ≤ 8) ∧ ∀ i, 0 ≤ i → i < M 2 3 → (0 ≤ M 18 i ∧ M 18 i ≤ 3) ∧ (0 ≤ M 19 i ∧ M 19 i ≤ 15) ∧ (0 ≤ M 20 i ∧ M 20 i ≤ 7)
set_option maxHeartbeats 4000000 in
set_option maxRecDepth 100000 in
theorem l_load1 (G : GT) (M : Mem) (t : Nat) (sub : Int) (P : Option AV → Mem → Prop) (ht : t < 2) (hp8 : 0 ≤ M (4 + t) 8 ∧ M (4 + t) 8 ≤ 8) (hlohi : (0 : Int) ≤ (M (4 + t) 8)) (kk : ∀ (N : Mem), (∀ p, 0 ≤ p → p < (M (4 + t) 8) → N (24 + 8 * t) p = M 15 p ∧ N (25 + 8 * t) p = M 16 p ∧ N (26 + 8 * t) p = M 17 p) → (∀ (c : Nat) (x : Int), c ≠ 24 + 8 * t → c ≠ 25 + 8 * t → c ≠ 26 + 8 * t → N c x = M c x) → AW G RX1 cX1_load 5 none (XM G 1 P) 68 [(0, vR (4 + t)), (1, vR 1), (2, vR 2), (3, vI sub), (4, vI (M (4 + t) 8))] [] N) : AW G RX1 cX1_load 5 none (XM G 1 P) 11 [(0, vR (4 + t)), (1, vR 1), (2, vR 2), (3, vI sub), (4, vI 0)] [] M := by
  have key : ∀ (nn : Nat) (j : Int)  (N : Mem), (0 : Int) ≤ j → j ≤ (M (4 + t) 8) → (∀ p, 0 ≤ p → p < j → N (24 + 8 * t) p = M 15 p ∧ N (25 + 8 * t) p = M 16 p ∧ N (26 + 8 * t) p = M 17 p) → (∀ (c : Nat) (x : Int), c ≠ 24 + 8 * t → c ≠ 25 + 8 * t → c ≠ 26 + 8 * t → N c x = M c x) → (M (4 + t) 8) - j < nn → AW G RX1 cX1_load 5 none (XM G 1 P) 11 [(0, vR (4 + t)), (1, vR 1), (2, vR 2), (3, vI sub), (4, vI j)] [] N := by
    intro nn
    induction nn with
    | zero => intro j N hk0 hk1  hV hC hn; omega
    | succ nn ih =>
      intro j N hk0 hk1  hV hC hn
      have e8 := hC (4 + t) 8 (by omega) (by omega) (by omega)
      refine a_iload (kX1_load.at 6 rfl) 4 rfl ?_
      refine a_aload_n (kX1_load.at 7 rfl) 0 rfl ?_
      refine a_getI (x := N (4 + t) 8) (kX1_load.at 8 rfl) fg_X1_48 (iI_C8 ht) (rfl) ?_
      refine a_icmpge (tgt := 68) (kX1_load.at 9 rfl) (by decide) (fun h17 => ?_) (fun h17 => ?_)
      · obtain rfl : j = M (4 + t) 8 := by omega
        exact kk N hV hC
      · refine a_aload_n (kX1_load.at 10 rfl) 0 rfl ?_
        refine a_getR (kX1_load.at 11 rfl) fg_X1_9 (iR_C0 ht) ?_
        refine a_iload (kX1_load.at 12 rfl) 4 rfl ?_
        refine a_aload_n (kX1_load.at 13 rfl) 1 rfl ?_
        refine a_getR (kX1_load.at 14 rfl) fg_X1_49 ir_1_1 ?_
        refine a_iload (kX1_load.at 15 rfl) 4 rfl ?_
        refine a_iald (x := N 15 j) (kX1_load.at 16 rfl) (ia_15) (by omega) (rfl) ?_
        refine a_iast (kX1_load.at 17 rfl) (iA_C0 ht) (by omega) ?_
        refine a_aload_n (kX1_load.at 18 rfl) 0 rfl ?_
        refine a_getR (kX1_load.at 19 rfl) fg_X1_15 (iR_C1 ht) ?_
        refine a_iload (kX1_load.at 20 rfl) 4 rfl ?_
        refine a_aload_n (kX1_load.at 21 rfl) 1 rfl ?_
        refine a_getR (kX1_load.at 22 rfl) fg_X1_50 ir_1_2 ?_
        refine a_iload (kX1_load.at 23 rfl) 4 rfl ?_
        refine a_iald (x := N 16 j) (kX1_load.at 24 rfl) (ia_16) (by omega) (rd_ne (by omega)) ?_
        refine a_iast (kX1_load.at 25 rfl) (iA_C1 ht) (by omega) ?_
        refine a_aload_n (kX1_load.at 26 rfl) 0 rfl ?_
        refine a_getR (kX1_load.at 27 rfl) fg_X1_18 (iR_C2 ht) ?_
        refine a_iload (kX1_load.at 28 rfl) 4 rfl ?_
        refine a_aload_n (kX1_load.at 29 rfl) 1 rfl ?_
        refine a_getR (kX1_load.at 30 rfl) fg_X1_51 ir_1_3 ?_
        refine a_iload (kX1_load.at 31 rfl) 4 rfl ?_
        refine a_iald (x := N 17 j) (kX1_load.at 32 rfl) (ia_17) (by omega) ((rd_ne (by omega)).trans (rd_ne (by omega))) ?_
        refine a_iast (kX1_load.at 33 rfl) (iA_C2 ht) (by omega) ?_
        have mst : ∀ p, 0 ≤ p → p < j + 1 → ((upm (upm (upm N (24 + 8 * t) j (N 15 j)) (25 + 8 * t) j (N 16 j)) (26 + 8 * t) j (N 17 j))) (24 + 8 * t) p = M 15 p ∧ ((upm (upm (upm N (24 + 8 * t) j (N 15 j)) (25 + 8 * t) j (N 16 j)) (26 + 8 * t) j (N 17 j))) (25 + 8 * t) p = M 16 p ∧ ((upm (upm (upm N (24 + 8 * t) j (N 15 j)) (25 + 8 * t) j (N 16 j)) (26 + 8 * t) j (N 17 j))) (26 + 8 * t) p = M 17 p := fun p a b => by
          rw [rd_ne (c := 24 + 8 * t) (k := 26 + 8 * t) (by omega), rd_ne (c := 24 + 8 * t) (k := 25 + 8 * t) (by omega), rd_ne (c := 25 + 8 * t) (k := 26 + 8 * t) (by omega), upm_same, upm_same, upm_same]
          unfold ups
          by_cases e : p = j
          · rw [if_pos e, if_pos e, if_pos e, e]
            exact ⟨hC 15 j (by omega) (by omega) (by omega), hC 16 j (by omega) (by omega) (by omega), hC 17 j (by omega) (by omega) (by omega)⟩
          · rw [if_neg e, if_neg e, if_neg e, rd_ne (c := 25 + 8 * t) (k := 24 + 8 * t) (by omega), rd_ne (c := 26 + 8 * t) (k := 25 + 8 * t) (by omega), rd_ne (c := 26 + 8 * t) (k := 24 + 8 * t) (by omega)]
            exact hV p a (by omega)
        refine a_iinc (ls' := [(0, vR (4 + t)), (1, vR 1), (2, vR 2), (3, vI sub), (4, vI (j + 1))]) (kX1_load.at 34 rfl) 4 rfl (by decide) (inr (by omega)) rfl ?_
        refine a_goto (tgt := 11) (kX1_load.at 35 rfl) (by decide) ?_
        exact ih ((j + 1)) ((upm (upm (upm N (24 + 8 * t) j (N 15 j)) (25 + 8 * t) j (N 16 j)) (26 + 8 * t) j (N 17 j))) (by omega) (by omega) (mst) (fun c x z1 z2 z3 => by rw [rd_ne z3, rd_ne z2, rd_ne z1]; exact hC c x z1 z2 z3) (by omega)
  exact key ((M (4 + t) 8) - (0) + 1 : Int).toNat (0) M (Int.le_refl _) hlohi  (fun p a b => by omega) (fun _ _ _ _ _ => rfl) (by omega)
set_option maxHeartbeats 4000000 in
set_option maxRecDepth 100000 in
theorem l_load2 (G : GT) (M : Mem) (t : Nat) (sub : Int) (P : Option AV → Mem → Prop) (ht : t < 2) (hE : EC M) (hs : 0 ≤ sub ∧ sub ≤ 255) (h0 : ∀ q, 0 ≤ q → q ≤ 15 → M (27 + 8 * t) q = 0) (hlohi : (0 : Int) ≤ (M 2 3)) (kk : ∀ (N : Mem), (∀ q, 0 ≤ q → q ≤ 15 → N (27 + 8 * t) q = forR 0 (M 2 3) (pxF M sub q) 0) → (∀ (c : Nat) (x : Int), c ≠ 27 + 8 * t → N c x = M c x) → AW G RX1 cX1_load 5 none (XM G 1 P) 128 [(0, vR (4 + t)), (1, vR 1), (2, vR 2), (3, vI sub), (4, vI (M 2 3))] [] N) : AW G RX1 cX1_load 5 none (XM G 1 P) 79 [(0, vR (4 + t)), (1, vR 1), (2, vR 2), (3, vI sub), (4, vI 0)] [] M := by
  have key : ∀ (nn : Nat) (j : Int)  (N : Mem), (0 : Int) ≤ j → j ≤ (M 2 3) → (∀ q, 0 ≤ q → q ≤ 15 → N (27 + 8 * t) q = forR 0 j (pxF M sub q) 0) → (∀ (c : Nat) (x : Int), c ≠ 27 + 8 * t → N c x = M c x) → (M 2 3) - j < nn → AW G RX1 cX1_load 5 none (XM G 1 P) 79 [(0, vR (4 + t)), (1, vR 1), (2, vR 2), (3, vI sub), (4, vI j)] [] N := by
    intro nn
    induction nn with
    | zero => intro j N hk0 hk1  hV hC hn; omega
    | succ nn ih =>
      intro j N hk0 hk1  hV hC hn
      have e3 := hC 2 3 (by omega)
      refine a_iload (kX1_load.at 42 rfl) 4 rfl ?_
      refine a_aload_n (kX1_load.at 43 rfl) 2 rfl ?_
      refine a_getI (x := N 2 3) (kX1_load.at 44 rfl) fg_X1_58 ii_2_3 (rfl) ?_
      refine a_icmpge (tgt := 128) (kX1_load.at 45 rfl) (by decide) (fun h85 => ?_) (fun h85 => ?_)
      · obtain rfl : j = M 2 3 := by omega
        exact kk N hV hC
      · have he := hE.2 j hk0 (by omega)
        have e18 := hC 18 j (by omega)
        have e19 := hC 19 j (by omega)
        have e20 := hC 20 j (by omega)
        have hE8 := hE.1
        refine a_iload_n (kX1_load.at 46 rfl) 3 rfl ?_
        refine a_iload (kX1_load.at 47 rfl) 4 rfl ?_
        refine AW.callSN (as := [vI sub, vI j]) (st := []) (kX1_load.at 48 rfl) NW.b ss_X5_hasBit ⟨Nat.le_of_ble_eq_true rfl, Nat.le_of_ble_eq_true rfl⟩ ⟨Nat.le_refl _, Nat.le_refl _⟩ rfl rfl (Nat.le_of_ble_eq_true rfl) (k_hasBit G N sub j (by omega) (by omega)) (kIE ?_)
        refine a_ifeqB (tgt := 122) (kX1_load.at 49 rfl) (by decide) (fun h94 => ?_) (fun h94 => ?_)
        · have mst : ∀ q, 0 ≤ q → q ≤ 15 → (N) (27 + 8 * t) q = forR 0 (j + 1) (pxF M sub q) 0 := fun q a b => by
            rw [forR_succ hk0, ← hV q a b]
            unfold pxF
            first
              | (rw [if_neg (fun z => h94 z.1)])
              | (rw [upm_same]; unfold ups; by_cases e : q = N 19 j; (rw [if_pos e, if_pos ⟨h94, by omega⟩, e18, e20, e]); (rw [if_neg e, if_neg (fun z => e (by omega))]))
          refine a_iinc (ls' := [(0, vR (4 + t)), (1, vR 1), (2, vR 2), (3, vI sub), (4, vI (j + 1))]) (kX1_load.at 64 rfl) 4 rfl (by decide) (inr (by omega)) rfl ?_
          refine a_goto (tgt := 79) (kX1_load.at 65 rfl) (by decide) ?_
          exact ih ((j + 1)) (N) (by omega) (by omega) (mst) (fun c x z => by first | exact hC c x z | (rw [rd_ne z]; exact hC c x z)) (by omega)
        · refine a_aload_n (kX1_load.at 50 rfl) 0 rfl ?_
          refine a_aload_n (kX1_load.at 51 rfl) 2 rfl ?_
          refine a_getR (kX1_load.at 52 rfl) fg_X1_67 ir_2_0 ?_
          refine a_iload (kX1_load.at 53 rfl) 4 rfl ?_
          refine a_iald (x := N 18 j) (kX1_load.at 54 rfl) (ia_18) (by omega) (rfl) ?_
          refine a_aload_n (kX1_load.at 55 rfl) 2 rfl ?_
          refine a_getR (kX1_load.at 56 rfl) fg_X1_70 ir_2_1 ?_
          refine a_iload (kX1_load.at 57 rfl) 4 rfl ?_
          refine a_iald (x := N 19 j) (kX1_load.at 58 rfl) (ia_19) (by omega) (rfl) ?_
          refine a_aload_n (kX1_load.at 59 rfl) 2 rfl ?_
          refine a_getR (kX1_load.at 60 rfl) fg_X1_73 ir_2_2 ?_
          refine a_iload (kX1_load.at 61 rfl) 4 rfl ?_
          refine a_iald (x := N 20 j) (kX1_load.at 62 rfl) (ia_20) (by omega) (rfl) ?_
          refine AW.callV (as := [vI (N 18 j), vI (N 19 j), vI (N 20 j)]) (st := []) (kX1_load.at 63 rfl) ml_X1_76 sv_X1_plan (k := (4 + t)) (iO_C ht) rfl rfl ⟨Nat.le_of_ble_eq_true rfl, Nat.le_of_ble_eq_true rfl⟩ ⟨Nat.le_refl _, Nat.le_refl _⟩ rfl rfl (Nat.le_of_ble_eq_true rfl) (k_plan G N t (N 18 j) (N 19 j) (N 20 j) ht (by omega) (by omega) (by omega)) (kVE ?_)
          have mst : ∀ q, 0 ≤ q → q ≤ 15 → ((upm N (27 + 8 * t) (N 19 j) (plS (N (27 + 8 * t) (N 19 j)) (N 18 j) (N 20 j)))) (27 + 8 * t) q = forR 0 (j + 1) (pxF M sub q) 0 := fun q a b => by
            rw [forR_succ hk0, ← hV q a b]
            unfold pxF
            first
              | (rw [if_neg (fun z => h94 z.1)])
              | (rw [upm_same]; unfold ups; by_cases e : q = N 19 j; (rw [if_pos e, if_pos ⟨h94, by omega⟩, e18, e20, e]); (rw [if_neg e, if_neg (fun z => e (by omega))]))
          refine a_iinc (ls' := [(0, vR (4 + t)), (1, vR 1), (2, vR 2), (3, vI sub), (4, vI (j + 1))]) (kX1_load.at 64 rfl) 4 rfl (by decide) (inr (by omega)) rfl ?_
          refine a_goto (tgt := 79) (kX1_load.at 65 rfl) (by decide) ?_
          exact ih ((j + 1)) ((upm N (27 + 8 * t) (N 19 j) (plS (N (27 + 8 * t) (N 19 j)) (N 18 j) (N 20 j)))) (by omega) (by omega) (mst) (fun c x z => by first | exact hC c x z | (rw [rd_ne z]; exact hC c x z)) (by omega)
  exact key ((M 2 3) - (0) + 1 : Int).toNat (0) M (Int.le_refl _) hlohi  (fun q a b => by rw [forR_nil (Int.le_refl _)]; exact h0 q a b) (fun _ _ _ => rfl) (by omega)
theorem k_load (G : GT) (M : Mem) (t : Nat) (sub : Int) (ht : t < 2) (hp8 : 0 ≤ M 1 5 ∧ M 1 5 ≤ 8) (hE : EC M) (hs : 0 ≤ sub ∧ sub ≤ 255) : AM G yX1_load cX1_load 5 none 1 M [vR (4 + t), vR 1, vR 2, vI sub] (pV fun N => (N (4 + t) 8 = M 1 5 ∧ (∀ p, 0 ≤ p → p < M 1 5 → N (24 + 8 * t) p = M 15 p ∧ N (25 + 8 * t) p = M 16 p ∧ N (26 + 8 * t) p = M 17 p) ∧ ∀ q, 0 ≤ q → q ≤ 15 → N (27 + 8 * t) q = plX M sub q) ∧ ∀ (c : Nat) (x : Int), ¬ (24 + 8 * t ≤ c ∧ c ≤ 27 + 8 * t) → ¬ (c = 4 + t ∧ x = 8) → N c x = M c x) := by
  refine AM.mk (own := RX1) rfl sv_X1_load.1.2.2.2.2.2 (Nat.le_of_ble_eq_true rfl) rfl ?_
  obtain ⟨M0, e0⟩ : ∃ z : Mem, z = upm M (4 + t) 8 (M 1 5) := ⟨_, rfl⟩
  have g0 : ∀ (c : Nat) (x : Int), ¬ (c = 4 + t ∧ x = 8) → M0 c x = M c x := fun c x z => by
    rw [e0]
    by_cases e : c = 4 + t
    · rw [e, rd_ni (by omega)]
    · rw [rd_ne e]
  have g8 : M0 (4 + t) 8 = M 1 5 := by rw [e0, rd_eq]
  refine a_aload_n (kX1_load.at 0 rfl) 0 rfl ?_
  refine a_aload_n (kX1_load.at 1 rfl) 1 rfl ?_
  refine a_getI (x := M 1 5) (kX1_load.at 2 rfl) fg_X1_43 ii_1_5 (rfl) ?_
  refine a_putI (j := 8) (kX1_load.at 3 rfl) fp_X1_48 (iI_C8 ht) rfl ?_
  refine AW.mem (M' := M0) (e0.symm) ?_
  refine a_iconst (kX1_load.at 4 rfl) rfl ?_
  refine a_istore (ls' := [(0, vR (4 + t)), (1, vR 1), (2, vR 2), (3, vI sub), (4, vI 0)]) (kX1_load.at 5 rfl) (by decide) rfl ?_
  refine l_load1 G M0 t sub _ ht (by omega) (by omega) ?_
  intro N1 hV hC
  show AW _ _ _ _ _ _ 68 [(0, vR (4 + t)), (1, vR 1), (2, vR 2), (3, vI sub), (4, vI (M0 (4 + t) 8))] [] N1
  refine a_aload_n (kX1_load.at 36 rfl) 0 rfl ?_
  refine a_getR (kX1_load.at 37 rfl) fg_X1_21 (iR_C3 ht) ?_
  refine a_iconst (kX1_load.at 38 rfl) rfl ?_
  refine AW.callS (as := [vR (27 + 8 * t), vI 0]) (st := []) (kX1_load.at 39 rfl) ml_X1_52 ss_J7_fill_53178 ⟨Nat.le_of_ble_eq_true rfl, Nat.le_of_ble_eq_true rfl⟩ ⟨Nat.le_refl _, Nat.le_refl _⟩ rfl rfl (Nat.le_of_ble_eq_true rfl) (k_fill G N1 (27 + 8 * t) 16 0 (iA_C3 ht) ⟨by decide, by decide⟩) (kV fun N2 hN => ?_)
  skip
  have g2 : ∀ (c : Nat) (x : Int), ¬ (24 + 8 * t ≤ c ∧ c ≤ 27 + 8 * t) → ¬ (c = 4 + t ∧ x = 8) → N2 c x = M c x := fun c x z1 z2 => by rw [hN.1 c (by omega), hC c x (by omega) (by omega) (by omega), g0 c x z2]
  have f2 := g2 2 3 (by omega) (by omega)
  have hE2 : EC N2 := ⟨by rw [f2]; exact hE.1, fun i a b => by rw [g2 18 i (by omega) (by omega), g2 19 i (by omega) (by omega), g2 20 i (by omega) (by omega)]; exact hE.2 i a (by omega)⟩
  refine a_iconst (kX1_load.at 40 rfl) rfl ?_
  refine a_istore (ls' := [(0, vR (4 + t)), (1, vR 1), (2, vR 2), (3, vI sub), (4, vI 0)]) (kX1_load.at 41 rfl) (by decide) rfl ?_
  refine l_load2 G N2 t sub _ ht hE2 hs (fun q a b => by rw [hN.2 q, if_pos (by omega)]) (by rw [f2]; exact hE.1.1) ?_
  intro N3 hV3 hC3
  show AW _ _ _ _ _ _ 128 [(0, vR (4 + t)), (1, vR 1), (2, vR 2), (3, vI sub), (4, vI (N2 2 3))] [] N3
  exact a_vret (kX1_load.at 66 rfl) (⟨⟨by rw [hC3 _ _ (by omega), hN.1 _ (by omega), hC _ _ (by omega) (by omega) (by omega), g8], fun p a b => by rw [hC3 (24 + 8 * t) _ (by omega), hC3 (25 + 8 * t) _ (by omega), hC3 (26 + 8 * t) _ (by omega), hN.1 (24 + 8 * t) (by omega), hN.1 (25 + 8 * t) (by omega), hN.1 (26 + 8 * t) (by omega)]; have z := hV p a (by omega); rw [g0 15 _ (by omega), g0 16 _ (by omega), g0 17 _ (by omega)] at z; exact z, fun q a b => by rw [hV3 q a b]; unfold plX; rw [f2]; exact forR_cong fun e w _ _ => by unfold pxF; rw [g2 18 e (by omega) (by omega), g2 19 e (by omega) (by omega), g2 20 e (by omega) (by omega)]⟩, fun c x z1 z2 => by rw [hC3 c x (by omega)]; exact g2 c x z1 z2⟩)
