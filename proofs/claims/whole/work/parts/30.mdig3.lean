/-! ===== the reference: digest, walked ===== -/
set_option maxHeartbeats 4000000 in
set_option maxRecDepth 100000 in
theorem l_dig1 (G : GT) (M : Mem) (P : Option AV → Mem → Prop) (hM : MB M) (hlohi : (0 : Int) ≤ 8) (kk : ∀ (N : Mem), (Fp M N) → AW G RX6 cX6_digest 4 (some .long) (XM G 9 P) 31 [(0, vR 44), (1, vL (forR 0 8 (dg1F M) 17)), (3, vI 8)] [] N) : AW G RX6 cX6_digest 4 (some .long) (XM G 9 P) 6 [(0, vR 44), (1, vL 17), (3, vI 0)] [] M := by
  have key : ∀ (nn : Nat) (k : Int) (h : Int) (N : Mem), (0 : Int) ≤ k → k ≤ 8 → h = forR 0 k (dg1F M) 17 → (Fp M N) → 8 - k < nn → AW G RX6 cX6_digest 4 (some .long) (XM G 9 P) 6 [(0, vR 44), (1, vL h), (3, vI k)] [] N := by
    intro nn
    induction nn with
    | zero => intro k h N hk0 hk1 e_h hF hn; omega
    | succ nn ih =>
      intro k h N hk0 hk1 e_h hF hn
      refine a_iload_n (kX6_digest.at 4 rfl) 2 rfl ?_
      refine a_bipush (kX6_digest.at 5 rfl) rfl rfl ?_
      refine a_icmpge (tgt := 31) (kX6_digest.at 6 rfl) (by decide) (fun h9 => ?_) (fun h9 => ?_)
      · subst e_h
        obtain rfl : k = 8 := by omega
        exact kk N hF
      · refine a_ldc2 (kX6_digest.at 7 rfl) cl_X6_320 (31) rfl ⟨by decide, by decide⟩ ?_
        refine a_lload_n (kX6_digest.at 8 rfl) 1 rfl ?_
        refine a_lmul (kX6_digest.at 9 rfl) ?_
        refine a_aload_n (kX6_digest.at 10 rfl) 0 rfl ?_
        refine a_iload_n (kX6_digest.at 11 rfl) 2 rfl ?_
        refine AW.callV (as := [vI k]) (st := [vL (wL (31 * h))]) (kX6_digest.at 12 rfl) ml_X6_328 sv_X6_count (k := 44) (io_44) rfl rfl ⟨Nat.le_of_ble_eq_true rfl, Nat.le_of_ble_eq_true rfl⟩ ⟨Nat.le_refl _, Nat.le_refl _⟩ rfl rfl (Nat.le_of_ble_eq_true rfl) (c_count G N k (hF.MB hM)) (kI fun r N1 hr => ?_)
        obtain ⟨rfl, hF0⟩ := hr
        rw [o_count_E hF hM]
        have hF1 := hF.trans hF0
        refine a_i2l (kX6_digest.at 13 rfl) ?_
        refine a_ladd (kX6_digest.at 14 rfl) ?_
        refine a_lstore_n (ls' := [(0, vR 44), (1, vL (wL ((wL (31 * h)) + (o_count M k)))), (3, vI k)]) (kX6_digest.at 15 rfl) (by decide) rfl ?_
        refine a_iinc (ls' := [(0, vR 44), (1, vL (wL ((wL (31 * h)) + (o_count M k)))), (3, vI (k + 1))]) (kX6_digest.at 16 rfl) 2 rfl (by decide) (inr (by omega)) rfl ?_
        refine a_goto (tgt := 6) (kX6_digest.at 17 rfl) (by decide) ?_
        exact ih ((k + 1)) ((wL ((wL (31 * h)) + (o_count M k)))) (N1) (by omega) (by omega) (by rw [forR_succ hk0, ← e_h] <;> (clear ih kk e_h; rfl)) (hF1) (by omega)
  exact key ((8) - (0) + 1 : Int).toNat (0) 17 M (Int.le_refl _) hlohi (forR_nil (Int.le_refl _)).symm (Fp.refl M) (by omega)
set_option maxHeartbeats 4000000 in
set_option maxRecDepth 100000 in
theorem l_dig2 (G : GT) (M : Mem) (h0 : Int) (P : Option AV → Mem → Prop) (hB : BI M) (hQ : QI M) (hlohi : (0 : Int) ≤ (M 44 7)) (kk : ∀ (N : Mem), (Fq M N) → AW G RX6 cX6_digest 4 (some .long) (XM G 9 P) 66 [(0, vR 44), (1, vL (forR 0 (M 44 7) (dg2F M) h0)), (3, vI (M 44 7))] [] N) : AW G RX6 cX6_digest 4 (some .long) (XM G 9 P) 45 [(0, vR 44), (1, vL h0), (3, vI 0)] [] M := by
  have key : ∀ (nn : Nat) (k : Int) (h : Int) (N : Mem), (0 : Int) ≤ k → k ≤ (M 44 7) → h = forR 0 k (dg2F M) h0 → (Fq M N) → (M 44 7) - k < nn → AW G RX6 cX6_digest 4 (some .long) (XM G 9 P) 45 [(0, vR 44), (1, vL h), (3, vI k)] [] N := by
    intro nn
    induction nn with
    | zero => intro k h N hk0 hk1 e_h hF hn; omega
    | succ nn ih =>
      intro k h N hk0 hk1 e_h hF hn
      have e7 := hF.p
      have hp := hB.1.1.1
      refine a_iload_n (kX6_digest.at 28 rfl) 2 rfl ?_
      refine a_aload_n (kX6_digest.at 29 rfl) 0 rfl ?_
      refine a_getI (x := N 44 7) (kX6_digest.at 30 rfl) fg_X6_105 ii_44_7 (rfl) ?_
      refine a_icmpge (tgt := 66) (kX6_digest.at 31 rfl) (by decide) (fun h50 => ?_) (fun h50 => ?_)
      · subst e_h
        obtain rfl : k = M 44 7 := by omega
        exact kk N hF
      · refine a_aload_n (kX6_digest.at 32 rfl) 0 rfl ?_
        refine a_lload_n (kX6_digest.at 33 rfl) 1 rfl ?_
        refine a_iload_n (kX6_digest.at 34 rfl) 2 rfl ?_
        refine AW.callV (as := [vL h, vI k]) (st := []) (kX6_digest.at 35 rfl) ml_X6_331 sv_X6_tellsPerson (k := 44) (io_44) rfl rfl ⟨Nat.le_of_ble_eq_true rfl, Nat.le_of_ble_eq_true rfl⟩ ⟨Nat.le_refl _, Nat.le_refl _⟩ rfl rfl (Nat.le_of_ble_eq_true rfl) (c_tellsPerson G N h k (hB.Fq hF) (hQ.Fq hF) (by omega)) (kL fun r N1 hr => ?_)
        obtain ⟨er, hF0⟩ := hr
        rw [er, tpS_E (hF.ie hB.2.2) hB hQ (k := k) (by omega)]
        have hF1 := hF.trans hF0
        refine a_lstore_n (ls' := [(0, vR 44), (1, vL (tpS M k h)), (3, vI k)]) (kX6_digest.at 36 rfl) (by decide) rfl ?_
        refine a_iinc (ls' := [(0, vR 44), (1, vL (tpS M k h)), (3, vI (k + 1))]) (kX6_digest.at 37 rfl) 2 rfl (by decide) (inr (by omega)) rfl ?_
        refine a_goto (tgt := 45) (kX6_digest.at 38 rfl) (by decide) ?_
        exact ih ((k + 1)) ((tpS M k h)) (N1) (by omega) (by omega) (by rw [forR_succ hk0, ← e_h] <;> (clear ih kk e_h; rfl)) (hF1) (by omega)
  exact key ((M 44 7) - (0) + 1 : Int).toNat (0) h0 M (Int.le_refl _) hlohi (forR_nil (Int.le_refl _)).symm (Fq.refl M) (by omega)
set_option maxHeartbeats 4000000 in
set_option maxRecDepth 100000 in
theorem l_dig3 (G : GT) (M : Mem) (h0 : Int) (P : Option AV → Mem → Prop) (hB : HB M) (hlohi : (0 : Int) ≤ 16) (kk : AW G RX6 cX6_digest 4 (some .long) (XM G 9 P) 112 [(0, vR 44), (1, vL (forR 0 16 (dg3F M) h0)), (3, vI 16)] [] M) : AW G RX6 cX6_digest 4 (some .long) (XM G 9 P) 72 [(0, vR 44), (1, vL h0), (3, vI 0)] [] M := by
  have key : ∀ (nn : Nat) (q : Int) (h : Int), (0 : Int) ≤ q → q ≤ 16 → h = forR 0 q (dg3F M) h0 → 16 - q < nn → AW G RX6 cX6_digest 4 (some .long) (XM G 9 P) 72 [(0, vR 44), (1, vL h), (3, vI q)] [] M := by
    intro nn
    induction nn with
    | zero => intro q h hk0 hk1 e_h  hn; omega
    | succ nn ih =>
      intro q h hk0 hk1 e_h  hn
      refine a_iload_n (kX6_digest.at 43 rfl) 2 rfl ?_
      refine a_bipush (kX6_digest.at 44 rfl) rfl rfl ?_
      refine a_icmpge (tgt := 112) (kX6_digest.at 45 rfl) (by decide) (fun h75 => ?_) (fun h75 => ?_)
      · subst e_h
        obtain rfl : q = 16 := by omega
        exact kk 
      · refine a_ldc2 (kX6_digest.at 46 rfl) cl_X6_320 (31) rfl ⟨by decide, by decide⟩ ?_
        refine a_lload_n (kX6_digest.at 47 rfl) 1 rfl ?_
        refine a_lmul (kX6_digest.at 48 rfl) ?_
        refine a_aload_n (kX6_digest.at 49 rfl) 0 rfl ?_
        refine a_iload_n (kX6_digest.at 50 rfl) 2 rfl ?_
        refine a_iconst (kX6_digest.at 51 rfl) rfl ?_
        refine AW.callV (as := [vI q, vI 0]) (st := [vL (wL (31 * h))]) (kX6_digest.at 52 rfl) ml_X6_222 sv_X6_pairsOf (k := 44) (io_44) rfl rfl ⟨Nat.le_of_ble_eq_true rfl, Nat.le_of_ble_eq_true rfl⟩ ⟨Nat.le_refl _, Nat.le_refl _⟩ rfl rfl (Nat.le_of_ble_eq_true rfl) (c_pairsOf G M q 0 hB (by omega)) (kIE ?_)
        refine a_i2l (kX6_digest.at 53 rfl) ?_
        refine a_ladd (kX6_digest.at 54 rfl) ?_
        refine a_lstore_n (ls' := [(0, vR 44), (1, vL (wL ((wL (31 * h)) + (pairsOf M q 0)))), (3, vI q)]) (kX6_digest.at 55 rfl) (by decide) rfl ?_
        refine a_ldc2 (kX6_digest.at 56 rfl) cl_X6_320 (31) rfl ⟨by decide, by decide⟩ ?_
        refine a_lload_n (kX6_digest.at 57 rfl) 1 rfl ?_
        refine a_lmul (kX6_digest.at 58 rfl) ?_
        refine a_aload_n (kX6_digest.at 59 rfl) 0 rfl ?_
        refine a_iload_n (kX6_digest.at 60 rfl) 2 rfl ?_
        refine a_iconst (kX6_digest.at 61 rfl) rfl ?_
        refine AW.callV (as := [vI q, vI 1]) (st := [vL (wL (31 * (wL ((wL (31 * h)) + (pairsOf M q 0)))))]) (kX6_digest.at 62 rfl) ml_X6_222 sv_X6_pairsOf (k := 44) (io_44) rfl rfl ⟨Nat.le_of_ble_eq_true rfl, Nat.le_of_ble_eq_true rfl⟩ ⟨Nat.le_refl _, Nat.le_refl _⟩ rfl rfl (Nat.le_of_ble_eq_true rfl) (c_pairsOf G M q 1 hB (by omega)) (kIE ?_)
        refine a_i2l (kX6_digest.at 63 rfl) ?_
        refine a_ladd (kX6_digest.at 64 rfl) ?_
        refine a_lstore_n (ls' := [(0, vR 44), (1, vL (wL ((wL (31 * (wL ((wL (31 * h)) + (pairsOf M q 0))))) + (pairsOf M q 1)))), (3, vI q)]) (kX6_digest.at 65 rfl) (by decide) rfl ?_
        refine a_iinc (ls' := [(0, vR 44), (1, vL (wL ((wL (31 * (wL ((wL (31 * h)) + (pairsOf M q 0))))) + (pairsOf M q 1)))), (3, vI (q + 1))]) (kX6_digest.at 66 rfl) 2 rfl (by decide) (inr (by omega)) rfl ?_
        refine a_goto (tgt := 72) (kX6_digest.at 67 rfl) (by decide) ?_
        exact ih ((q + 1)) ((wL ((wL (31 * (wL ((wL (31 * h)) + (pairsOf M q 0))))) + (pairsOf M q 1)))) (by omega) (by omega) (by rw [forR_succ hk0, ← e_h] <;> (clear ih kk e_h; rfl)) (by omega)
  exact key ((16) - (0) + 1 : Int).toNat (0) h0 (Int.le_refl _) hlohi (forR_nil (Int.le_refl _)).symm  (by omega)
set_option maxHeartbeats 4000000 in
set_option maxRecDepth 100000 in
theorem l_dig4 (G : GT) (M : Mem) (h0 : Int) (P : Option AV → Mem → Prop) (hB : HB M) (hlohi : (0 : Int) ≤ 10) (kk : AW G RX6 cX6_digest 4 (some .long) (XM G 9 P) 156 [(0, vR 44), (1, vL (forR 0 10 (dg4F M) h0)), (3, vI 10)] [] M) : AW G RX6 cX6_digest 4 (some .long) (XM G 9 P) 114 [(0, vR 44), (1, vL h0), (3, vI 0)] [] M := by
  have key : ∀ (nn : Nat) (x : Int) (h : Int), (0 : Int) ≤ x → x ≤ 10 → h = forR 0 x (dg4F M) h0 → 10 - x < nn → AW G RX6 cX6_digest 4 (some .long) (XM G 9 P) 114 [(0, vR 44), (1, vL h), (3, vI x)] [] M := by
    intro nn
    induction nn with
    | zero => intro x h hk0 hk1 e_h  hn; omega
    | succ nn ih =>
      intro x h hk0 hk1 e_h  hn
      have hp := hB.1
      refine a_iload_n (kX6_digest.at 70 rfl) 2 rfl ?_
      refine a_bipush (kX6_digest.at 71 rfl) rfl rfl ?_
      refine a_icmpge (tgt := 156) (kX6_digest.at 72 rfl) (by decide) (fun h117 => ?_) (fun h117 => ?_)
      · subst e_h
        obtain rfl : x = 10 := by omega
        exact kk 
      · refine a_ldc2 (kX6_digest.at 73 rfl) cl_X6_320 (31) rfl ⟨by decide, by decide⟩ ?_
        refine a_lload_n (kX6_digest.at 74 rfl) 1 rfl ?_
        refine a_lmul (kX6_digest.at 75 rfl) ?_
        refine a_aload_n (kX6_digest.at 76 rfl) 0 rfl ?_
        refine a_bipush (kX6_digest.at 77 rfl) rfl rfl ?_
        refine a_iload_n (kX6_digest.at 78 rfl) 2 rfl ?_
        refine AW.callV (as := [vI 7, vI x]) (st := [vL (wL (31 * h))]) (kX6_digest.at 79 rfl) ml_X6_212 sv_X6_houseOf (k := 44) (io_44) rfl rfl ⟨Nat.le_of_ble_eq_true rfl, Nat.le_of_ble_eq_true rfl⟩ ⟨Nat.le_refl _, Nat.le_refl _⟩ rfl rfl (Nat.le_of_ble_eq_true rfl) (c_houseOf G M 7 x (by omega) (by omega)) (kIE ?_)
        refine a_i2l (kX6_digest.at 80 rfl) ?_
        refine a_ladd (kX6_digest.at 81 rfl) ?_
        refine a_lstore_n (ls' := [(0, vR 44), (1, vL (wL ((wL (31 * h)) + (houseOf M 7 x)))), (3, vI x)]) (kX6_digest.at 82 rfl) (by decide) rfl ?_
        refine a_ldc2 (kX6_digest.at 83 rfl) cl_X6_320 (31) rfl ⟨by decide, by decide⟩ ?_
        refine a_lload_n (kX6_digest.at 84 rfl) 1 rfl ?_
        refine a_lmul (kX6_digest.at 85 rfl) ?_
        refine a_aload_n (kX6_digest.at 86 rfl) 0 rfl ?_
        refine a_bipush (kX6_digest.at 87 rfl) rfl rfl ?_
        refine a_iload_n (kX6_digest.at 88 rfl) 2 rfl ?_
        refine AW.callV (as := [vI 15, vI x]) (st := [vL (wL (31 * (wL ((wL (31 * h)) + (houseOf M 7 x)))))]) (kX6_digest.at 89 rfl) ml_X6_212 sv_X6_houseOf (k := 44) (io_44) rfl rfl ⟨Nat.le_of_ble_eq_true rfl, Nat.le_of_ble_eq_true rfl⟩ ⟨Nat.le_refl _, Nat.le_refl _⟩ rfl rfl (Nat.le_of_ble_eq_true rfl) (c_houseOf G M 15 x (by omega) (by omega)) (kIE ?_)
        refine a_i2l (kX6_digest.at 90 rfl) ?_
        refine a_ladd (kX6_digest.at 91 rfl) ?_
        refine a_lstore_n (ls' := [(0, vR 44), (1, vL (wL ((wL (31 * (wL ((wL (31 * h)) + (houseOf M 7 x))))) + (houseOf M 15 x)))), (3, vI x)]) (kX6_digest.at 92 rfl) (by decide) rfl ?_
        refine a_iinc (ls' := [(0, vR 44), (1, vL (wL ((wL (31 * (wL ((wL (31 * h)) + (houseOf M 7 x))))) + (houseOf M 15 x)))), (3, vI (x + 1))]) (kX6_digest.at 93 rfl) 2 rfl (by decide) (inr (by omega)) rfl ?_
        refine a_goto (tgt := 114) (kX6_digest.at 94 rfl) (by decide) ?_
        exact ih ((x + 1)) ((wL ((wL (31 * (wL ((wL (31 * h)) + (houseOf M 7 x))))) + (houseOf M 15 x)))) (by omega) (by omega) (by rw [forR_succ hk0, ← e_h] <;> (clear ih kk e_h; rfl)) (by omega)
  exact key ((10) - (0) + 1 : Int).toNat (0) h0 (Int.le_refl _) hlohi (forR_nil (Int.le_refl _)).symm  (by omega)
