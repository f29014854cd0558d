/-! ===== the class: chance ===== -/
noncomputable def Fc (M N : Mem) : Prop := ∀ (c : Nat) (x : Int), c ≠ 5 → ¬ (32 ≤ c ∧ c ≤ 39) → c ≠ 6 → c ≠ 8 → c ≠ 9 → ¬ (c = 0 ∧ x = 9) → N c x = M c x
theorem Fc.trans {M N K : Mem} (h1 : Fc M N) (h2 : Fc N K) : Fc M K := fun c x a b d e f g => (h2 c x a b d e f g).trans (h1 c x a b d e f g)
theorem Fy.c {M N : Mem} (h : Fy M N) : Fc M N := fun c x a b d e _ _ => h c x a b d e
theorem Fc.z {M N : Mem} (h : Fc M N) : Fz M N := fun c x a => h c x (by omega) (by omega) (by omega) (by omega) (by omega) (by omega)
theorem Cp.c {M N K : Mem} (h : Cp M K) (hF : Fc M N) (hK : CK N K) : Cp N K :=
  ⟨h.1.ext (fun c x a => hF c x (by omega) (by omega) (by omega) (by omega) (by omega) (by omega)), h.2.1.ext (fun c x a => hF c x (by omega) (by omega) (by omega) (by omega) (by omega) (by omega)), h.2.2.1.ext (fun c x a => hF c x (by omega) (by omega) (by omega) (by omega) (by omega) (by omega)), ⟨h.2.2.2.1.1.ext (fun c x a => hF c x (by omega) (by omega) (by omega) (by omega) (by omega) (by omega)), h.2.2.2.1.2.ext (fun x => hF 31 x (by omega) (by omega) (by omega) (by omega) (by omega) (by omega))⟩, h.2.2.2.2.1.ext (fun c x a => hF c x (by omega) (by omega) (by omega) (by omega) (by omega) (by omega)), hK⟩
set_option maxHeartbeats 4000000 in
set_option maxRecDepth 100000 in
theorem l_kch1 (G : GT) (M K : Mem) (c k w : Int) (P : Option AV → Mem → Prop) (hC : Cp M K) (h : MB K) (hI : CI K) (h09 : M 0 9 = 0) (hlohi : (0 : Int) ≤ (iShl 1 (K 44 9))) (kk : ∀ (N : Mem), (Fc M N ∧ N 0 9 = 0) → (∀ s, 0 ≤ s → s < (iShl 1 (K 44 9)) → MvB (N 9 s) (reads K).1 (iShl 1 (K 44 9) - 1 - s)) → AW G RX5 cX5_chance 9 (some .long) (XM G 4 P) 98 [(0, vR 0), (1, vI c), (2, vI k), (3, vI w), (4, vI (iShl 1 (K 44 9)))] [] N) : AW G RX5 cX5_chance 9 (some .long) (XM G 4 P) 40 [(0, vR 0), (1, vI c), (2, vI k), (3, vI w), (4, vI 0)] [] M := by
  have key : ∀ (nn : Nat) (sub : Int)  (N : Mem), (0 : Int) ≤ sub → sub ≤ (iShl 1 (K 44 9)) → (Fc M N ∧ N 0 9 = 0) → (∀ s, 0 ≤ s → s < sub → MvB (N 9 s) (reads K).1 (iShl 1 (K 44 9) - 1 - s)) → (iShl 1 (K 44 9)) - sub < nn → AW G RX5 cX5_chance 9 (some .long) (XM G 4 P) 40 [(0, vR 0), (1, vI c), (2, vI k), (3, vI w), (4, vI sub)] [] N := by
    intro nn
    induction nn with
    | zero => intro sub N hk0 hk1  hy hz hn; omega
    | succ nn ih =>
      intro sub N hk0 hk1  hy hz hn
      have hCN := hC.c hy.1 (Or.inl hy.2)
      have e9 := hCN.1.2.1.1
      have h9 := h.1.2.2
      have h256 := shl1_8 h9
      refine a_iload (kX5_chance.at 20 rfl) 4 rfl ?_
      refine a_iconst (kX5_chance.at 21 rfl) rfl ?_
      refine a_aload_n (kX5_chance.at 22 rfl) 0 rfl ?_
      refine a_getR (kX5_chance.at 23 rfl) fg_X5_19 ir_0_1 ?_
      refine a_getI (x := N 2 3) (kX5_chance.at 24 rfl) fg_X5_91 ii_2_3 (rfl) ?_
      rw [e9]
      refine a_ishl (kX5_chance.at 25 rfl) ?_
      refine a_icmpge (tgt := 98) (kX5_chance.at 26 rfl) (by decide) (fun h51 => ?_) (fun h51 => ?_)
      · obtain rfl : sub = iShl 1 (K 44 9) := by omega
        exact kk N hy hz
      · refine a_aload_n (kX5_chance.at 27 rfl) 0 rfl ?_
        refine a_getR (kX5_chance.at 28 rfl) fg_X5_33 ir_0_4 ?_
        refine a_aload_n (kX5_chance.at 29 rfl) 0 rfl ?_
        refine a_getR (kX5_chance.at 30 rfl) fg_X5_10 ir_0_0 ?_
        refine a_aload_n (kX5_chance.at 31 rfl) 0 rfl ?_
        refine a_getR (kX5_chance.at 32 rfl) fg_X5_19 ir_0_1 ?_
        refine a_iload (kX5_chance.at 33 rfl) 4 rfl ?_
        refine AW.callV (as := [vR 1, vR 2, vI sub]) (st := []) (kX5_chance.at 34 rfl) ml_X5_157 sv_X1_load (k := 5) (io_5) rfl rfl ⟨Nat.le_of_ble_eq_true rfl, Nat.le_of_ble_eq_true rfl⟩ ⟨Nat.le_refl _, Nat.le_refl _⟩ rfl rfl (Nat.le_of_ble_eq_true rfl) (k_loadT G N K sub hCN h (by omega)) (kV fun N2 hN2 => ?_)
        skip
        refine a_aload_n (kX5_chance.at 35 rfl) 0 rfl ?_
        refine a_getR (kX5_chance.at 36 rfl) fg_X5_33 ir_0_4 ?_
        refine AW.callV (as := []) (st := []) (kX5_chance.at 37 rfl) ml_X5_162 sv_X1_run (k := 5) (io_5) rfl rfl ⟨Nat.le_of_ble_eq_true rfl, Nat.le_of_ble_eq_true rfl⟩ ⟨Nat.le_refl _, Nat.le_refl _⟩ rfl rfl (Nat.le_of_ble_eq_true rfl) (k_runT G N2 (upm (reads K).1 44 11 (iShl 1 (K 44 9) - 1 - sub)) (LD_load hCN.1 hCN.2.1 h hN2 (fun e a b => cm_bit h9 (by omega) ⟨a, b⟩)) (hI.1.g _) (hI.2.g _)) (kV fun N3 hN3 => ?_)
        skip
        obtain ⟨s3, t3, r3, f3⟩ := hN3
        have e7 : lives (upm (reads K).1 44 11 (iShl 1 (K 44 9) - 1 - sub)) 44 7 = (reads K).1 44 7 := (Fr_lives _).people
        have hm : MvB (N3 5 14) (reads K).1 (iShl 1 (K 44 9) - 1 - sub) := ⟨s3.2.2.2.2.1, fun p a b => by have z := s3.2.2.2.2.2 p a b; rw [e7] at z; exact z⟩
        have fy : Fy N N3 := hN2.y.trans f3.y
        have hy4 : Fc M (upm N3 9 sub (N3 5 14)) ∧ upm N3 9 sub (N3 5 14) 0 9 = 0 := ⟨(hy.1.trans fy.c).trans (fun c x a b d e f g => rd_ne f), by rw [rd_ne (by omega), fy 0 9 (by omega) (by omega) (by omega) (by omega)]; exact hy.2⟩
        have hz4 : ∀ s, 0 ≤ s → s < sub + 1 → MvB (upm N3 9 sub (N3 5 14) 9 s) (reads K).1 (iShl 1 (K 44 9) - 1 - s) := fun s a b => by
          by_cases es : s = sub
          · rw [es, rd_eq]; exact hm
          · rw [rd_ni es, fy 9 s (by omega) (by omega) (by omega) (by omega)]; exact hz s a (by omega)
        refine a_aload_n (kX5_chance.at 38 rfl) 0 rfl ?_
        refine a_getR (kX5_chance.at 39 rfl) fg_X5_53 ir_0_8 ?_
        refine a_iload (kX5_chance.at 40 rfl) 4 rfl ?_
        refine a_aload_n (kX5_chance.at 41 rfl) 0 rfl ?_
        refine a_getR (kX5_chance.at 42 rfl) fg_X5_33 ir_0_4 ?_
        refine a_getI (x := N3 5 14) (kX5_chance.at 43 rfl) fg_X5_148 ii_5_14 (rfl) ?_
        refine a_iast (kX5_chance.at 44 rfl) (ia_9) (by omega) ?_
        refine a_iinc (ls' := [(0, vR 0), (1, vI c), (2, vI k), (3, vI w), (4, vI (sub + 1))]) (kX5_chance.at 45 rfl) 4 rfl (by decide) (inr (by omega)) rfl ?_
        refine a_goto (tgt := 40) (kX5_chance.at 46 rfl) (by decide) ?_
        exact ih ((sub + 1)) ((upm N3 9 sub (N3 5 14))) (by omega) (by omega) (hy4) (hz4) (by omega)
  exact key ((iShl 1 (K 44 9)) - (0) + 1 : Int).toNat (0) M (Int.le_refl _) hlohi  (⟨(Fy.refl M).c, h09⟩) (fun s a b => by omega) (by omega)
set_option maxHeartbeats 4000000 in
set_option maxRecDepth 100000 in
theorem l_kch2 (G : GT) (M K : Mem) (c k w : Int) (P : Option AV → Mem → Prop) (e9 : M 2 3 = K 44 9) (h9 : 0 ≤ K 44 9 ∧ K 44 9 ≤ 8) (hc : 0 ≤ c ∧ c ≤ 16) (hk : 0 ≤ k ∧ k ≤ 7) (hM : ∀ s, 0 ≤ s → s < iShl 1 (K 44 9) → 0 ≤ M 9 s ∧ M 9 s < 256) (hlohi : (0 : Int) ≤ (iShl 1 (K 44 9))) (kk : (0 ≤ (forR 0 (iShl 1 (K 44 9)) (chC M c k (K 44 9)) 0) ∧ (forR 0 (iShl 1 (K 44 9)) (chC M c k (K 44 9)) 0) ≤ 4294967296 * (iShl 1 (K 44 9))) → AW G RX5 cX5_chance 9 (some .long) (XM G 4 P) 181 [(0, vR 0), (1, vI c), (2, vI k), (3, vI w), (4, vL (forR 0 (iShl 1 (K 44 9)) (chC M c k (K 44 9)) 0)), (6, vI (iShl 1 (K 44 9)))] [] M) : AW G RX5 cX5_chance 9 (some .long) (XM G 4 P) 109 [(0, vR 0), (1, vI c), (2, vI k), (3, vI w), (4, vL 0), (6, vI 0)] [] M := by
  have key : ∀ (nn : Nat) (sub : Int) (a : Int), (0 : Int) ≤ sub → sub ≤ (iShl 1 (K 44 9)) → a = forR 0 sub (chC M c k (K 44 9)) 0 → (0 ≤ a ∧ a ≤ 4294967296 * sub) → (iShl 1 (K 44 9)) - sub < nn → AW G RX5 cX5_chance 9 (some .long) (XM G 4 P) 109 [(0, vR 0), (1, vI c), (2, vI k), (3, vI w), (4, vL a), (6, vI sub)] [] M := by
    intro nn
    induction nn with
    | zero => intro sub a hk0 hk1 e_a ha hn; omega
    | succ nn ih =>
      intro sub a hk0 hk1 e_a ha hn
      have h256 := shl1_8 h9
      refine a_iload (kX5_chance.at 54 rfl) 5 rfl ?_
      refine a_iconst (kX5_chance.at 55 rfl) rfl ?_
      refine a_aload_n (kX5_chance.at 56 rfl) 0 rfl ?_
      refine a_getR (kX5_chance.at 57 rfl) fg_X5_19 ir_0_1 ?_
      refine a_getI (x := M 2 3) (kX5_chance.at 58 rfl) fg_X5_91 ii_2_3 (rfl) ?_
      rw [e9]
      refine a_ishl (kX5_chance.at 59 rfl) ?_
      refine a_icmpge (tgt := 181) (kX5_chance.at 60 rfl) (by decide) (fun h120 => ?_) (fun h120 => ?_)
      · subst e_a
        obtain rfl : sub = iShl 1 (K 44 9) := by omega
        exact kk ha
      · have hm := hM sub (by omega) (by omega)
        refine a_aload_n (kX5_chance.at 61 rfl) 0 rfl ?_
        refine a_getR (kX5_chance.at 62 rfl) fg_X5_53 ir_0_8 ?_
        refine a_iload (kX5_chance.at 63 rfl) 5 rfl ?_
        refine a_iald (x := M 9 sub) (kX5_chance.at 64 rfl) (ia_9) (by omega) (rfl) ?_
        refine a_iload_n (kX5_chance.at 65 rfl) 2 rfl ?_
        refine AW.callS (as := [vI (M 9 sub), vI k]) (st := []) (kX5_chance.at 66 rfl) ml_X5_215 ss_X5_hasBit ⟨Nat.le_of_ble_eq_true rfl, Nat.le_of_ble_eq_true rfl⟩ ⟨Nat.le_refl _, Nat.le_refl _⟩ rfl rfl (Nat.le_of_ble_eq_true rfl) (k_hasBit G M (M 9 sub) k (by omega) (by omega)) (kIE ?_)
        refine a_ifeqB (tgt := 175) (kX5_chance.at 67 rfl) (by decide) (fun h134 => ?_) (fun h134 => ?_)
        · refine a_iinc (ls' := [(0, vR 0), (1, vI c), (2, vI k), (3, vI w), (4, vL a), (6, vI (sub + 1))]) (kX5_chance.at 89 rfl) 5 rfl (by decide) (inr (by omega)) rfl ?_
          refine a_goto (tgt := 109) (kX5_chance.at 90 rfl) (by decide) ?_
          exact ih ((sub + 1)) (a) (by omega) (by omega) (by rw [forR_succ hk0, ← e_a] <;> (clear ih kk e_a; unfold chC; first | (rw [if_pos h134, eT.1, e9]; exact wL_small (by omega)) | (rw [if_neg h134]))) (by first | (rw [eT.1, e9, wL_small (by omega)]; omega) | omega) (by omega)
        · have pr := pcF_r sub h9.1
          rw [pcF_n h9 (by omega)] at pr
          have eU := tm_ok (c := c) (n := K 44 9) (sub := sub) hc h9 (by omega)
          have eT := eU
          rw [← e9] at eT pr
          refine a_iload (kX5_chance.at 68 rfl) 5 rfl ?_
          refine AW.callS (as := [vI sub]) (st := []) (kX5_chance.at 69 rfl) ml_X5_181 ss_J6_bitCount_0f7a4 ⟨Nat.le_of_ble_eq_true rfl, Nat.le_of_ble_eq_true rfl⟩ ⟨Nat.le_refl _, Nat.le_refl _⟩ rfl rfl (Nat.le_of_ble_eq_true rfl) (k_bitCount G M sub (by omega)) (kIE ?_)
          refine a_istore (ls' := [(0, vR 0), (1, vI c), (2, vI k), (3, vI w), (4, vL a), (6, vI sub), (7, vI (popc sub))]) (kX5_chance.at 70 rfl) (by decide) rfl ?_
          refine a_lload (kX5_chance.at 71 rfl) 4 rfl ?_
          refine a_iload_n (kX5_chance.at 72 rfl) 1 rfl ?_
          refine a_i2l (kX5_chance.at 73 rfl) ?_
          refine a_iload (kX5_chance.at 74 rfl) 6 rfl ?_
          refine AW.callS (as := [vL c, vI (popc sub)]) (st := [vL a]) (kX5_chance.at 75 rfl) ml_X5_218 ss_X5_power ⟨Nat.le_of_ble_eq_true rfl, Nat.le_of_ble_eq_true rfl⟩ ⟨Nat.le_refl _, Nat.le_refl _⟩ rfl rfl (Nat.le_of_ble_eq_true rfl) (k_power G M c (popc sub) (by omega)) (kLE ?_)
          refine a_bipush (kX5_chance.at 76 rfl) rfl rfl ?_
          refine a_iload_n (kX5_chance.at 77 rfl) 1 rfl ?_
          refine a_isub (kX5_chance.at 78 rfl) (inr (by omega)) ?_
          refine a_i2l (kX5_chance.at 79 rfl) ?_
          refine a_aload_n (kX5_chance.at 80 rfl) 0 rfl ?_
          refine a_getR (kX5_chance.at 81 rfl) fg_X5_19 ir_0_1 ?_
          refine a_getI (x := M 2 3) (kX5_chance.at 82 rfl) fg_X5_91 ii_2_3 (rfl) ?_
          refine a_iload (kX5_chance.at 83 rfl) 6 rfl ?_
          refine a_isub (kX5_chance.at 84 rfl) (inr (by omega)) ?_
          refine AW.callS (as := [vL (16 - c), vI ((M 2 3) - (popc sub))]) (st := [vL (forR 0 (popc sub) (powF c) 1), vL a]) (kX5_chance.at 85 rfl) ml_X5_218 ss_X5_power ⟨Nat.le_of_ble_eq_true rfl, Nat.le_of_ble_eq_true rfl⟩ ⟨Nat.le_refl _, Nat.le_refl _⟩ rfl rfl (Nat.le_of_ble_eq_true rfl) (k_power G M (16 - c) ((M 2 3) - (popc sub)) (by omega)) (kLE ?_)
          refine a_lmul (kX5_chance.at 86 rfl) ?_
          refine a_ladd (kX5_chance.at 87 rfl) ?_
          refine a_lstore (ls' := [(0, vR 0), (1, vI c), (2, vI k), (3, vI w), (4, vL (wL (a + (wL ((forR 0 (popc sub) (powF c) 1) * (forR 0 ((M 2 3) - (popc sub)) (powF (16 - c)) 1)))))), (6, vI sub), (7, vI (popc sub))]) (kX5_chance.at 88 rfl) (by decide) rfl ?_
          refine a_iinc (ls' := [(0, vR 0), (1, vI c), (2, vI k), (3, vI w), (4, vL (wL (a + (wL ((forR 0 (popc sub) (powF c) 1) * (forR 0 ((M 2 3) - (popc sub)) (powF (16 - c)) 1)))))), (6, vI (sub + 1)), (7, vI (popc sub))]) (kX5_chance.at 89 rfl) 5 rfl (by decide) (inr (by omega)) rfl ?_
          refine a_goto (tgt := 109) (kX5_chance.at 90 rfl) (by decide) ?_
          refine AW.loc (ls' := [(0, vR 0), (1, vI c), (2, vI k), (3, vI w), (4, vL (wL (a + (wL ((forR 0 (popc sub) (powF c) 1) * (forR 0 ((M 2 3) - (popc sub)) (powF (16 - c)) 1)))))), (6, vI (sub + 1))]) [0, 1, 2, 3, 4, 5] rfl ?_
          exact ih ((sub + 1)) ((wL (a + (wL ((forR 0 (popc sub) (powF c) 1) * (forR 0 ((M 2 3) - (popc sub)) (powF (16 - c)) 1)))))) (by omega) (by omega) (by rw [forR_succ hk0, ← e_a] <;> (clear ih kk e_a; unfold chC; first | (rw [if_pos h134, eT.1, e9]; exact wL_small (by omega)) | (rw [if_neg h134]))) (by first | (rw [eT.1, e9, wL_small (by omega)]; omega) | omega) (by omega)
  exact key ((iShl 1 (K 44 9)) - (0) + 1 : Int).toNat (0) 0 (Int.le_refl _) hlohi (forR_nil (Int.le_refl _)).symm (by omega) (by omega)
theorem pw_2 {n : Int} (hn : 0 ≤ n) : pw n = (2 : Int) ^ (4 * n).toNat := by
  unfold pw
  rw [show (4 * n).toNat = 4 * n.toNat by omega, Int.pow_mul]
  rfl
theorem half_b {n h b : Int} (hh : 0 ≤ h ∧ h ≤ 4 * n) (eb : b = 2 ^ (4 * n - h).toNat) : b * 2 ^ h.toNat = pw n := by
  rw [pw_2 (by omega), eb, ← Int.pow_add]
  congr 1
  omega
theorem half_2 {n h b : Int} (hh : 0 ≤ h ∧ h < 4 * n) (eb : b = 2 ^ (4 * n - h).toNat) : b / 2 = 2 ^ (4 * n - (h + 1)).toNat := by
  rw [eb, show (4 * n - h).toNat = (4 * n - (h + 1)).toNat + 1 by omega, Int.pow_succ]
  generalize (2 : Int) ^ (4 * n - (h + 1)).toNat = z
  omega
theorem half_a {A h a : Int} (hh : 0 ≤ h) (ea : a * 2 ^ h.toNat = A) (he : a % 2 = 0) : a / 2 * 2 ^ (h + 1).toNat = A := by
  rw [← ea, show (h + 1).toNat = h.toNat + 1 by omega, Int.pow_succ]
  generalize (2 : Int) ^ h.toNat = v
  obtain ⟨u, eu⟩ : ∃ u, u = a / 2 := ⟨_, rfl⟩
  have e : a = 2 * u := by omega
  rw [← eu, e, Int.mul_comm v 2, ← Int.mul_assoc, Int.mul_comm u 2]
set_option maxHeartbeats 4000000 in
set_option maxRecDepth 100000 in
theorem l_khalf (G : GT) (M : Mem) (c k w n A : Int) (P : Int → Mem → Prop) (e9 : M 2 3 = n) (hn : 0 ≤ n ∧ n ≤ 8) (hP : P (partS A (pw n) w) M) : ∀ (nn : Nat) (h a b : Int), 0 ≤ h → h ≤ 4 * n → a * 2 ^ h.toNat = A → b = 2 ^ (4 * n - h).toNat → (0 ≤ a ∧ a ≤ 4000000000000) → (0 < b ∧ b ≤ 4294967296) → 4 * n - h < nn → AW G RX5 cX5_chance 9 (some .long) (XM G 4 (pL P)) 199 [(0, vR 0), (1, vI c), (2, vI k), (3, vI w), (4, vL a), (6, vL b), (8, vI h)] [] M := by
  intro nn
  induction nn with
  | zero => intro h a b h1 h2 h3 h4 h5 h6 h7; omega
  | succ nn ih =>
    intro h a b h1 h2 h3 h4 h5 h6 h7
    have la := lAnd_1 (x := a) (by omega)
    have sa := lShr_1 (x := a) (by omega)
    have sb := lShr_1 (x := b) (by omega)
    have hfin : (h = 4 * n ∨ a % 2 = 1) → P (if w = 0 then a else b) M := fun u => by
      have z := half_part (w := w) hn.1 ⟨h1, h2⟩ h3 (half_b ⟨h1, h2⟩ h4) h5.1 h6.1 u
      rw [← z]
      exact hP
    refine a_iload (kX5_chance.at 99 rfl) 6 rfl ?_
    refine a_iconst (kX5_chance.at 100 rfl) rfl ?_
    refine a_aload_n (kX5_chance.at 101 rfl) 0 rfl ?_
    refine a_getR (kX5_chance.at 102 rfl) fg_X5_19 ir_0_1 ?_
    refine a_getI (x := M 2 3) (kX5_chance.at 103 rfl) fg_X5_91 ii_2_3 (rfl) ?_
    refine a_imul (kX5_chance.at 104 rfl) (inr (by omega)) ?_
    refine a_icmpge (tgt := 240) (kX5_chance.at 105 rfl) (by decide) (fun h210 => ?_) (fun h210 => ?_)
    · have hfin := hfin (by omega)
      refine a_iload_n (kX5_chance.at 122 rfl) 3 rfl ?_
      refine a_ifne (tgt := 249) (kX5_chance.at 123 rfl) (by decide) (fun h241 => ?_) (fun h241 => ?_)
      · refine a_lload (kX5_chance.at 126 rfl) 5 rfl ?_
        exact a_lret (kX5_chance.at 127 rfl) (by first | (rw [if_pos (by omega)] at hfin; exact hfin) | (rw [if_neg (by omega)] at hfin; exact hfin))
      · refine a_lload (kX5_chance.at 124 rfl) 4 rfl ?_
        refine a_goto (tgt := 251) (kX5_chance.at 125 rfl) (by decide) ?_
        exact a_lret (kX5_chance.at 127 rfl) (by first | (rw [if_pos (by omega)] at hfin; exact hfin) | (rw [if_neg (by omega)] at hfin; exact hfin))
    · refine a_lload (kX5_chance.at 106 rfl) 4 rfl ?_
      refine a_lconst (kX5_chance.at 107 rfl) 1 rfl rfl ?_
      refine a_land (kX5_chance.at 108 rfl) ?_
      refine a_lconst (kX5_chance.at 109 rfl) 0 rfl rfl ?_
      refine a_lcmp (kX5_chance.at 110 rfl) ?_
      refine a_ifne (tgt := 240) (kX5_chance.at 111 rfl) (by decide) (fun h219 => ?_) (fun h219 => ?_)
      · rw [cmpI_eq] at h219
        have hfin := hfin (by omega)
        refine a_iload_n (kX5_chance.at 122 rfl) 3 rfl ?_
        refine a_ifne (tgt := 249) (kX5_chance.at 123 rfl) (by decide) (fun h241 => ?_) (fun h241 => ?_)
        · refine a_lload (kX5_chance.at 126 rfl) 5 rfl ?_
          exact a_lret (kX5_chance.at 127 rfl) (by first | (rw [if_pos (by omega)] at hfin; exact hfin) | (rw [if_neg (by omega)] at hfin; exact hfin))
        · refine a_lload (kX5_chance.at 124 rfl) 4 rfl ?_
          refine a_goto (tgt := 251) (kX5_chance.at 125 rfl) (by decide) ?_
          exact a_lret (kX5_chance.at 127 rfl) (by first | (rw [if_pos (by omega)] at hfin; exact hfin) | (rw [if_neg (by omega)] at hfin; exact hfin))
      · rw [cmpI_eq] at h219
        refine a_lload (kX5_chance.at 112 rfl) 4 rfl ?_
        refine a_iconst (kX5_chance.at 113 rfl) rfl ?_
        refine a_lshr (kX5_chance.at 114 rfl) ?_
        refine a_lstore (ls' := [(0, vR 0), (1, vI c), (2, vI k), (3, vI w), (4, vL (lShr a 1)), (6, vL b), (8, vI h)]) (kX5_chance.at 115 rfl) (by decide) rfl ?_
        refine a_lload (kX5_chance.at 116 rfl) 5 rfl ?_
        refine a_iconst (kX5_chance.at 117 rfl) rfl ?_
        refine a_lshr (kX5_chance.at 118 rfl) ?_
        refine a_lstore (ls' := [(0, vR 0), (1, vI c), (2, vI k), (3, vI w), (4, vL (lShr a 1)), (6, vL (lShr b 1)), (8, vI h)]) (kX5_chance.at 119 rfl) (by decide) rfl ?_
        refine a_iinc (ls' := [(0, vR 0), (1, vI c), (2, vI k), (3, vI w), (4, vL (lShr a 1)), (6, vL (lShr b 1)), (8, vI (h + 1))]) (kX5_chance.at 120 rfl) 6 rfl (by decide) (inr (by omega)) rfl ?_
        refine a_goto (tgt := 199) (kX5_chance.at 121 rfl) (by decide) ?_
        have e2 := half_2 (n := n) (h := h) (b := b) (by omega) h4
        have e6 : (0 : Int) < 2 ^ (4 * n - (h + 1)).toNat := Int.pow_pos (by decide)
        rw [sa, sb]
        exact ih (h + 1) (a / 2) (b / 2) (by omega) (by omega) (half_a h1 h3 (by omega)) e2 (by omega) (by omega) (by omega)
theorem x_kch (G : GT) (M K : Mem) (c k w : Int) (P : Int → Mem → Prop) (hC : Cp M K) (h : MB K) (hc : 0 ≤ c ∧ c ≤ 16) (hk : 0 ≤ k ∧ k < (reads K).1 44 7) (hM : ∀ sub, 0 ≤ sub → sub < iShl 1 (K 44 9) → MvB (M 9 sub) (reads K).1 (iShl 1 (K 44 9) - 1 - sub)) (hP : P (chanceS (find K) c k w) M) : AW G RX5 cX5_chance 9 (some .long) (XM G 4 (pL P)) 103 [(0, vR 0), (1, vI c), (2, vI k), (3, vI w)] [] M := by
  have e9 := hC.1.2.1.1
  have h9 := h.1.2.2
  have r9 := reads_9 h
  have h256 := shl1_8 h9
  have hp8 := (reads_IR K h.1.1).1
  have eA : forR 0 (iShl 1 (K 44 9)) (chC M c k (K 44 9)) 0 = chAb (reads K).1 c k := by
    have z := chC_eq (M := M) (R := (reads K).1) (c := c) (k := k) (by rw [r9]; exact h9) hk hp8.2 (by rw [r9]; exact hM)
    rw [r9] at z
    exact z
  have eP : chanceS (find K) c k w = partS (chAb (reads K).1 c k) (pw (K 44 9)) w := by
    rw [chanceS_E (rf_InE K) (reads_BI h).1 hk]
    unfold chanceS
    rw [r9, lShl_8 h9]
  have e16 : forR 0 (K 44 9) (powF 16) 1 = (2 : Int) ^ (4 * K 44 9 - 0).toNat := by
    rw [pow_ok (by omega) h9, show (4 * K 44 9 - 0).toNat = 4 * (K 44 9).toNat by omega, Int.pow_mul]
    rfl
  have b16 : 0 < forR 0 (K 44 9) (powF 16) 1 ∧ forR 0 (K 44 9) (powF 16) 1 ≤ 4294967296 := by
    rw [pow_ok (by omega) h9]
    exact ⟨Int.pow_pos (by decide), pow16 (by omega)⟩
  rw [eP] at hP
  refine a_lconst (kX5_chance.at 50 rfl) 0 rfl rfl ?_
  refine a_lstore (ls' := [(0, vR 0), (1, vI c), (2, vI k), (3, vI w), (4, vL 0)]) (kX5_chance.at 51 rfl) (by decide) rfl ?_
  refine a_iconst (kX5_chance.at 52 rfl) rfl ?_
  refine a_istore (ls' := [(0, vR 0), (1, vI c), (2, vI k), (3, vI w), (4, vL 0), (6, vI 0)]) (kX5_chance.at 53 rfl) (by decide) rfl ?_
  refine l_kch2 G M K c k w _ e9 h9 hc (by omega) (fun s a b => (hM s a b).1) (by omega) ?_
  intro ha; rw [eA] at ha ⊢
  show AW _ _ _ _ _ _ 181 [(0, vR 0), (1, vI c), (2, vI k), (3, vI w), (4, vL (chAb (reads K).1 c k)), (6, vI (iShl 1 (K 44 9)))] [] M
  refine a_ldc2 (kX5_chance.at 91 rfl) cl_X5_222 (16) rfl ⟨by decide, by decide⟩ ?_
  refine a_aload_n (kX5_chance.at 92 rfl) 0 rfl ?_
  refine a_getR (kX5_chance.at 93 rfl) fg_X5_19 ir_0_1 ?_
  refine a_getI (x := M 2 3) (kX5_chance.at 94 rfl) fg_X5_91 ii_2_3 (rfl) ?_
  refine AW.callS (as := [vL 16, vI (M 2 3)]) (st := []) (kX5_chance.at 95 rfl) ml_X5_218 ss_X5_power ⟨Nat.le_of_ble_eq_true rfl, Nat.le_of_ble_eq_true rfl⟩ ⟨Nat.le_refl _, Nat.le_refl _⟩ rfl rfl (Nat.le_of_ble_eq_true rfl) (k_power G M 16 (M 2 3) (by omega)) (kLE ?_)
  refine a_lstore (ls' := [(0, vR 0), (1, vI c), (2, vI k), (3, vI w), (4, vL (chAb (reads K).1 c k)), (6, vL (forR 0 (M 2 3) (powF 16) 1))]) (kX5_chance.at 96 rfl) (by decide) rfl ?_
  refine a_iconst (kX5_chance.at 97 rfl) rfl ?_
  refine a_istore (ls' := [(0, vR 0), (1, vI c), (2, vI k), (3, vI w), (4, vL (chAb (reads K).1 c k)), (6, vL (forR 0 (M 2 3) (powF 16) 1)), (8, vI 0)]) (kX5_chance.at 98 rfl) (by decide) rfl ?_
  rw [e9]
  exact l_khalf G M c k w (K 44 9) (chAb (reads K).1 c k) P e9 h9 hP 40 0 _ _ (by omega) (by omega) (by rw [show (0 : Int).toNat = 0 from rfl, Int.pow_zero, Int.mul_one]) e16 (by omega) b16 (by omega)
theorem k_chance (G : GT) (M K : Mem) (c k w : Int) (hC : Cp M K) (h : MB K) : AM G yX5_chance cX5_chance 9 (some .long) 4 M [vR 0, vI c, vI k, vI w] (pL fun r N => r = o_chance K c k w ∧ Cp N K ∧ Fz M N) := by
  refine AM.mk (own := RX5) rfl sv_X5_chance.1.2.2.2.2.2 (Nat.le_of_ble_eq_true rfl) rfl ?_
  have hI := CI_of hC h
  have ef := find_p K
  have hp := hI.1.1
  have e5 := hC.2.1.2.1
  have h9 := h.1.2.2
  have h256 := shl1_8 h9
  have hCK := hC.2.2.2.2.2
  have hfin : (0 ≤ c ∧ c ≤ 16) ∧ (0 ≤ k ∧ k ≤ find K 44 7 - 1) ∧ 0 ≤ w ∧ w ≤ 1 → chanceS (find K) c k w = o_chance K c k w := fun u => (if_pos u).symm
  refine a_iload_n (kX5_chance.at 0 rfl) 1 rfl ?_
  refine a_iflt (tgt := 26) (kX5_chance.at 1 rfl) (by decide) (fun h1 => ?_) (fun h1 => ?_)
  · refine a_ldc2 (kX5_chance.at 13 rfl) cl_X5_209 (-9223372036854775806) rfl ⟨by decide, by decide⟩ ?_
    exact a_lret (kX5_chance.at 14 rfl) (by unfold o_chance; exact ⟨((if_neg (by omega)).trans (by rw [wL_id ⟨by omega, by omega⟩]; rfl)).symm, hC, fun _ _ _ => rfl⟩)
  · refine a_iload_n (kX5_chance.at 2 rfl) 1 rfl ?_
    refine a_bipush (kX5_chance.at 3 rfl) rfl rfl ?_
    refine a_icmpgt (tgt := 26) (kX5_chance.at 4 rfl) (by decide) (fun h7 => ?_) (fun h7 => ?_)
    · refine a_ldc2 (kX5_chance.at 13 rfl) cl_X5_209 (-9223372036854775806) rfl ⟨by decide, by decide⟩ ?_
      exact a_lret (kX5_chance.at 14 rfl) (by unfold o_chance; exact ⟨((if_neg (by omega)).trans (by rw [wL_id ⟨by omega, by omega⟩]; rfl)).symm, hC, fun _ _ _ => rfl⟩)
    · refine a_aload_n (kX5_chance.at 5 rfl) 0 rfl ?_
      refine a_iload_n (kX5_chance.at 6 rfl) 2 rfl ?_
      refine AW.callV (as := [vI k]) (st := []) (kX5_chance.at 7 rfl) ml_X5_70 sv_X5_isPerson (k := 0) (io_0) rfl rfl ⟨Nat.le_of_ble_eq_true rfl, Nat.le_of_ble_eq_true rfl⟩ ⟨Nat.le_refl _, Nat.le_refl _⟩ rfl rfl (Nat.le_of_ble_eq_true rfl) (k_isPerson G M k) (kIE ?_)
      refine a_ifeqB (tgt := 26) (kX5_chance.at 8 rfl) (by decide) (fun h15 => ?_) (fun h15 => ?_)
      · refine a_ldc2 (kX5_chance.at 13 rfl) cl_X5_209 (-9223372036854775806) rfl ⟨by decide, by decide⟩ ?_
        exact a_lret (kX5_chance.at 14 rfl) (by unfold o_chance; exact ⟨((if_neg (by omega)).trans (by rw [wL_id ⟨by omega, by omega⟩]; rfl)).symm, hC, fun _ _ _ => rfl⟩)
      · refine a_iload_n (kX5_chance.at 9 rfl) 3 rfl ?_
        refine a_iconst (kX5_chance.at 10 rfl) rfl ?_
        refine AW.callS (as := [vI w, vI 2]) (st := []) (kX5_chance.at 11 rfl) ml_X5_74 ss_X5_isBelow ⟨Nat.le_of_ble_eq_true rfl, Nat.le_of_ble_eq_true rfl⟩ ⟨Nat.le_refl _, Nat.le_refl _⟩ rfl rfl (Nat.le_of_ble_eq_true rfl) (k_isBelow G M w 2) (kIE ?_)
        refine a_ifneB (tgt := 30) (kX5_chance.at 12 rfl) (by decide) (fun h23 => ?_) (fun h23 => ?_)
        · refine a_aload_n (kX5_chance.at 15 rfl) 0 rfl ?_
          refine a_getI (x := M 0 9) (kX5_chance.at 16 rfl) fg_X5_211 ii_0_9 (rfl) ?_
          refine a_ifne (tgt := 103) (kX5_chance.at 17 rfl) (by decide) (fun h34 => ?_) (fun h34 => ?_)
          · first | exact x_kch G _ K c k w _ (hC.c (hy1.1.trans (fun c x a b d e f g => (by by_cases ec : c = 0; (rw [ec, rd_ni (by omega)]); (rw [rd_ne ec])))) (Or.inr ⟨rd_eq, fun sub a b => (by rw [rd_ne (by omega)]; exact hz1 sub a b)⟩)) h (by omega) (by omega) (fun sub a b => (by rw [rd_ne (by omega)]; exact hz1 sub a b)) ⟨hfin (by omega), hC.c (hy1.1.trans (fun c x a b d e f g => (by by_cases ec : c = 0; (rw [ec, rd_ni (by omega)]); (rw [rd_ne ec])))) (Or.inr ⟨rd_eq, fun sub a b => (by rw [rd_ne (by omega)]; exact hz1 sub a b)⟩), fun c x a => (by rw [rd_ne (by omega)]; exact hy1.1.z c x a)⟩ | exact x_kch G M K c k w _ hC h (by omega) (by omega) ((hCK.resolve_left h34).2) ⟨hfin (by omega), hC, fun _ _ _ => rfl⟩
          · refine a_iconst (kX5_chance.at 18 rfl) rfl ?_
            refine a_istore (ls' := [(0, vR 0), (1, vI c), (2, vI k), (3, vI w), (4, vI 0)]) (kX5_chance.at 19 rfl) (by decide) rfl ?_
            refine l_kch1 G M K c k w _ hC h hI h34 (by omega) ?_
            intro N1 hy1 hz1
            show AW _ _ _ _ _ _ 98 [(0, vR 0), (1, vI c), (2, vI k), (3, vI w), (4, vI (iShl 1 (K 44 9)))] [] N1
            refine a_aload_n (kX5_chance.at 47 rfl) 0 rfl ?_
            refine a_iconst (kX5_chance.at 48 rfl) rfl ?_
            refine a_putZ (j := 9) (kX5_chance.at 49 rfl) fp_X5_211 (ii_0_9) rfl (by omega) ?_
            refine AW.loc (ls' := [(0, vR 0), (1, vI c), (2, vI k), (3, vI w)]) [0, 1, 2, 3] rfl ?_
            first | exact x_kch G _ K c k w _ (hC.c (hy1.1.trans (fun c x a b d e f g => (by by_cases ec : c = 0; (rw [ec, rd_ni (by omega)]); (rw [rd_ne ec])))) (Or.inr ⟨rd_eq, fun sub a b => (by rw [rd_ne (by omega)]; exact hz1 sub a b)⟩)) h (by omega) (by omega) (fun sub a b => (by rw [rd_ne (by omega)]; exact hz1 sub a b)) ⟨hfin (by omega), hC.c (hy1.1.trans (fun c x a b d e f g => (by by_cases ec : c = 0; (rw [ec, rd_ni (by omega)]); (rw [rd_ne ec])))) (Or.inr ⟨rd_eq, fun sub a b => (by rw [rd_ne (by omega)]; exact hz1 sub a b)⟩), fun c x a => (by rw [rd_ne (by omega)]; exact hy1.1.z c x a)⟩ | exact x_kch G M K c k w _ hC h (by omega) (by omega) ((hCK.resolve_left h34).2) ⟨hfin (by omega), hC, fun _ _ _ => rfl⟩
        · refine a_ldc2 (kX5_chance.at 13 rfl) cl_X5_209 (-9223372036854775806) rfl ⟨by decide, by decide⟩ ?_
          exact a_lret (kX5_chance.at 14 rfl) (by unfold o_chance; exact ⟨((if_neg (by omega)).trans (by rw [wL_id ⟨by omega, by omega⟩]; rfl)).symm, hC, fun _ _ _ => rfl⟩)
