/-! ===== the reference: digest, the whole ===== -/
theorem tellsQ_E {M N : Mem} (h : OutE M N) {q k : Int} (hq : 0 ≤ q ∧ q ≤ 15) (hk : 0 ≤ k ∧ k < M 44 7) (x : Int) : tellsQ N q k x = tellsQ M q k x := forR_cong fun j y _ _ => by rw [atBy_E h hq hk]
theorem tpP_E {M N : Mem} (h : InE M N) {k : Int} (hk : 0 ≤ k ∧ k < M 44 7) (x : Int) : tpP N k x = tpP M k x := forR_cong fun j y _ _ => by rw [h.2.1 (3 * k + j) (by omega) (by omega)]
theorem tpS_E {M N : Mem} (h : IE M N) (hB : BI M) (hQ : QI M) {k : Int} (hk : 0 ≤ k ∧ k < M 44 7) (x : Int) : tpS N k x = tpS M k x := by
  have hO := lives_E h.1 hB.1.1.1
  have hk' : 0 ≤ k ∧ k < lives M 44 7 := by rw [(Fr_lives M).people]; exact hk
  unfold tpS tpQ
  rw [tpP_E h.1 hk, tellsQ_E hO (by omega) hk', tellsQ_E hO (by omega) hk', tellsQ_E hO (by omega) hk', tellsQ_E hO (by omega) hk', boredOf_E hO hk', friendsOf_E hO hk', settleS_E h.1 hB hk, settleS_E h.1 hB hk, thinkS_E h.1 hB, thinkS_E h.1 hB, thoughtS_E h hB hQ, sortS_E h hB hQ, askS_E h hB hQ hk, chanceS_E h.1 hB hk, chanceS_E h.1 hB hk]
theorem o_count_E {M N : Mem} (hF : Fp M N) (h : MB M) (w : Int) : o_count N w = o_count M w := by
  have hO := find_E hF h
  unfold o_count
  rw [hO.1.1.1.1, sumBy_E hO, rootedNow_E hO, hF 44 6 (by omega) (by omega) (by omega) (by omega) (by omega), hF 44 9 (by omega) (by omega) (by omega) (by omega) (by omega), hF 44 28 (by omega) (by omega) (by omega) (by omega) (by omega), hF 44 4 (by omega) (by omega) (by omega) (by omega) (by omega)]
noncomputable def dg1F (M : Mem) : Int → Int → Int := fun k h => ds h (o_count M k)
noncomputable def dg2F (M : Mem) : Int → Int → Int := fun k h => tpS M k h
noncomputable def dg3F (M : Mem) : Int → Int → Int := fun q h => ds (ds h (pairsOf M q 0)) (pairsOf M q 1)
noncomputable def dg4F (M : Mem) : Int → Int → Int := fun x h => ds (ds h (houseOf M 7 x)) (houseOf M 15 x)
noncomputable def dg34 (K : Mem) (h : Int) : Int := ds (ds (forR 0 10 (dg4F K) (forR 0 16 (dg3F K) h)) (K 44 26)) (K 44 27)
noncomputable def dg5 (M : Mem) (h : Int) : Int := ds (ds (ds (ds (ds (ds (ds h (restS M 0)) (restS M 1)) (spareS M (-1))) (spareS M 0)) (neverS M)) (decadesS M 7 6 0)) (decadesS M 7 6 1)
noncomputable def dgT (M : Mem) (h : Int) : Int := dg5 M (dg34 (lives M) (forR 0 (M 44 7) (dg2F M) h))
noncomputable def digS (M : Mem) : Int := dgT (reads M).1 (ds (forR 0 8 (dg1F M) 17) (reads M).2)
theorem dg34_E {M N : Mem} (h : OutE M N) (x : Int) : dg34 N x = dg34 M x := by
  have e3 : ∀ y, forR 0 16 (dg3F N) y = forR 0 16 (dg3F M) y := fun y => forR_cong fun q z a b => by unfold dg3F; rw [pairsOf_E h (by omega), pairsOf_E h (by omega)]
  have e4 : ∀ y, forR 0 10 (dg4F N) y = forR 0 10 (dg4F M) y := fun y => forR_cong fun q z a b => by unfold dg4F; rw [houseOf_E h (by omega), houseOf_E h (by omega)]
  unfold dg34
  rw [e3, e4, h.1.2.2.2.2.1, h.1.2.2.2.2.2]
theorem dg5_E {M N : Mem} (h : IE M N) (hB : BI M) (hQ : QI M) (x : Int) : dg5 N x = dg5 M x := by
  unfold dg5
  rw [restS_E h.1 hB, restS_E h.1 hB, spareS_E h.1 hB, spareS_E h.1 hB, neverS_E h hB hQ, decadesS_E h.1 hB _ _ _ (by omega), decadesS_E h.1 hB _ _ _ (by omega)]
theorem dg2_E {M N : Mem} (h : IE M N) (hB : BI M) (hQ : QI M) (x : Int) : forR 0 (N 44 7) (dg2F N) x = forR 0 (M 44 7) (dg2F M) x := by
  rw [h.1.1.1]
  exact forR_cong fun k y a b => by unfold dg2F; rw [tpS_E h hB hQ (by omega)]
theorem dgT_E {M N : Mem} (h : IE M N) (hB : BI M) (hQ : QI M) (x : Int) : dgT N x = dgT M x := by
  unfold dgT
  rw [dg5_E h hB hQ, dg34_E (lives_E h.1 hB.1.1.1), dg2_E h hB hQ]
set_option maxHeartbeats 4000000 in
set_option maxRecDepth 100000 in
theorem l_dig1 (G : GT) (M : Mem) (P : Option AV → Mem → Prop) (hM : MB M) (hlohi : (0 : Int) ≤ 8) (kk : ∀ (N : Mem), (Fp M N) → AW G RX6 cX6_digest 4 (some .long) (XM G 9 P) 31 [(0, vR 44), (1, vL (forR 0 8 (dg1F M) 17)), (3, vI 8)] [] N) : AW G RX6 cX6_digest 4 (some .long) (XM G 9 P) 6 [(0, vR 44), (1, vL 17), (3, vI 0)] [] M := by
  have key : ∀ (nn : Nat) (k : Int) (h : Int) (N : Mem), (0 : Int) ≤ k → k ≤ 8 → h = forR 0 k (dg1F M) 17 → (Fp M N) → 8 - k < nn → AW G RX6 cX6_digest 4 (some .long) (XM G 9 P) 6 [(0, vR 44), (1, vL h), (3, vI k)] [] N := by
    intro nn
    induction nn with
    | zero => intro k h N hk0 hk1 e_h hF hn; omega
    | succ nn ih =>
      intro k h N hk0 hk1 e_h hF hn
      refine a_iload_n (kX6_digest.at 4 rfl) 2 rfl ?_
      refine a_bipush (kX6_digest.at 5 rfl) rfl rfl ?_
      refine a_icmpge (tgt := 31) (kX6_digest.at 6 rfl) (by decide) (fun h9 => ?_) (fun h9 => ?_)
      · obtain rfl : k = 8 := by omega
        subst e_h
        exact kk N hF
      · refine a_ldc2 (kX6_digest.at 7 rfl) cl_X6_320 (31) rfl ⟨by decide, by decide⟩ ?_
        refine a_lload_n (kX6_digest.at 8 rfl) 1 rfl ?_
        refine a_lmul (kX6_digest.at 9 rfl) ?_
        refine a_aload_n (kX6_digest.at 10 rfl) 0 rfl ?_
        refine a_iload_n (kX6_digest.at 11 rfl) 2 rfl ?_
        refine AW.callV (as := [vI k]) (st := [vL (wL (31 * h))]) (kX6_digest.at 12 rfl) ml_X6_328 sv_X6_count (k := 44) (io_44) rfl rfl ⟨Nat.le_of_ble_eq_true rfl, Nat.le_of_ble_eq_true rfl⟩ ⟨Nat.le_refl _, Nat.le_refl _⟩ rfl rfl (Nat.le_of_ble_eq_true rfl) (c_count G N k (hF.MB hM)) (kI fun r N1 hr => ?_)
        obtain ⟨rfl, hF0⟩ := hr
        rw [o_count_E hF hM]
        have hF1 := hF.trans hF0
        refine a_i2l (kX6_digest.at 13 rfl) ?_
        refine a_ladd (kX6_digest.at 14 rfl) ?_
        refine a_lstore_n (ls' := [(0, vR 44), (1, vL (wL ((wL (31 * h)) + (o_count M k)))), (3, vI k)]) (kX6_digest.at 15 rfl) (by decide) rfl ?_
        refine a_iinc (ls' := [(0, vR 44), (1, vL (wL ((wL (31 * h)) + (o_count M k)))), (3, vI (k + 1))]) (kX6_digest.at 16 rfl) 2 rfl (by decide) (inr (by omega)) rfl ?_
        refine a_goto (tgt := 6) (kX6_digest.at 17 rfl) (by decide) ?_
        exact ih ((k + 1)) ((wL ((wL (31 * h)) + (o_count M k)))) (N1) (by omega) (by omega) (by rw [forR_succ hk0, ← e_h] <;> (clear ih kk e_h; rfl)) (hF1) (by omega)
  exact key ((8) - (0) + 1 : Int).toNat (0) 17 M (Int.le_refl _) hlohi (forR_nil (Int.le_refl _)).symm (Fp.refl M) (by omega)
set_option maxHeartbeats 4000000 in
set_option maxRecDepth 100000 in
theorem l_dig2 (G : GT) (M : Mem) (h0 : Int) (P : Option AV → Mem → Prop) (hB : BI M) (hQ : QI M) (hlohi : (0 : Int) ≤ (M 44 7)) (kk : ∀ (N : Mem), (Fq M N) → AW G RX6 cX6_digest 4 (some .long) (XM G 9 P) 66 [(0, vR 44), (1, vL (forR 0 (M 44 7) (dg2F M) h0)), (3, vI (M 44 7))] [] N) : AW G RX6 cX6_digest 4 (some .long) (XM G 9 P) 45 [(0, vR 44), (1, vL h0), (3, vI 0)] [] M := by
  have key : ∀ (nn : Nat) (k : Int) (h : Int) (N : Mem), (0 : Int) ≤ k → k ≤ (M 44 7) → h = forR 0 k (dg2F M) h0 → (Fq M N) → (M 44 7) - k < nn → AW G RX6 cX6_digest 4 (some .long) (XM G 9 P) 45 [(0, vR 44), (1, vL h), (3, vI k)] [] N := by
    intro nn
    induction nn with
    | zero => intro k h N hk0 hk1 e_h hF hn; omega
    | succ nn ih =>
      intro k h N hk0 hk1 e_h hF hn
      have e7 := hF.p
      have hp := hB.1.1.1
      refine a_iload_n (kX6_digest.at 28 rfl) 2 rfl ?_
      refine a_aload_n (kX6_digest.at 29 rfl) 0 rfl ?_
      refine a_getI (x := N 44 7) (kX6_digest.at 30 rfl) fg_X6_105 ii_44_7 (rfl) ?_
      refine a_icmpge (tgt := 66) (kX6_digest.at 31 rfl) (by decide) (fun h50 => ?_) (fun h50 => ?_)
      · obtain rfl : k = M 44 7 := by omega
        subst e_h
        exact kk N hF
      · refine a_aload_n (kX6_digest.at 32 rfl) 0 rfl ?_
        refine a_lload_n (kX6_digest.at 33 rfl) 1 rfl ?_
        refine a_iload_n (kX6_digest.at 34 rfl) 2 rfl ?_
        refine AW.callV (as := [vL h, vI k]) (st := []) (kX6_digest.at 35 rfl) ml_X6_331 sv_X6_tellsPerson (k := 44) (io_44) rfl rfl ⟨Nat.le_of_ble_eq_true rfl, Nat.le_of_ble_eq_true rfl⟩ ⟨Nat.le_refl _, Nat.le_refl _⟩ rfl rfl (Nat.le_of_ble_eq_true rfl) (c_tellsPerson G N h k (hB.Fq hF) (hQ.Fq hF) (by omega)) (kL fun r N1 hr => ?_)
        obtain ⟨rfl, hF0⟩ := hr
        rw [tpS_E (hF.ie hB.2.2) hB hQ (by omega)]
        have hF1 := hF.trans hF0
        refine a_lstore_n (ls' := [(0, vR 44), (1, vL (tpS M k h)), (3, vI k)]) (kX6_digest.at 36 rfl) (by decide) rfl ?_
        refine a_iinc (ls' := [(0, vR 44), (1, vL (tpS M k h)), (3, vI (k + 1))]) (kX6_digest.at 37 rfl) 2 rfl (by decide) (inr (by omega)) rfl ?_
        refine a_goto (tgt := 45) (kX6_digest.at 38 rfl) (by decide) ?_
        exact ih ((k + 1)) ((tpS M k h)) (N1) (by omega) (by omega) (by rw [forR_succ hk0, ← e_h] <;> (clear ih kk e_h; rfl)) (hF1) (by omega)
  exact key ((M 44 7) - (0) + 1 : Int).toNat (0) h0 M (Int.le_refl _) hlohi (forR_nil (Int.le_refl _)).symm (Fq.refl M) (by omega)
set_option maxHeartbeats 4000000 in
set_option maxRecDepth 100000 in
theorem l_dig3 (G : GT) (M : Mem) (h0 : Int) (P : Option AV → Mem → Prop) (hB : HB M) (hlohi : (0 : Int) ≤ 16) (kk : AW G RX6 cX6_digest 4 (some .long) (XM G 9 P) 112 [(0, vR 44), (1, vL (forR 0 16 (dg3F M) h0)), (3, vI 16)] [] M) : AW G RX6 cX6_digest 4 (some .long) (XM G 9 P) 72 [(0, vR 44), (1, vL h0), (3, vI 0)] [] M := by
  have key : ∀ (nn : Nat) (q : Int) (h : Int), (0 : Int) ≤ q → q ≤ 16 → h = forR 0 q (dg3F M) h0 → 16 - q < nn → AW G RX6 cX6_digest 4 (some .long) (XM G 9 P) 72 [(0, vR 44), (1, vL h), (3, vI q)] [] M := by
    intro nn
    induction nn with
    | zero => intro q h hk0 hk1 e_h  hn; omega
    | succ nn ih =>
      intro q h hk0 hk1 e_h  hn
      refine a_iload_n (kX6_digest.at 43 rfl) 2 rfl ?_
      refine a_bipush (kX6_digest.at 44 rfl) rfl rfl ?_
      refine a_icmpge (tgt := 112) (kX6_digest.at 45 rfl) (by decide) (fun h75 => ?_) (fun h75 => ?_)
      · obtain rfl : q = 16 := by omega
        subst e_h
        exact kk 
      · refine a_ldc2 (kX6_digest.at 46 rfl) cl_X6_320 (31) rfl ⟨by decide, by decide⟩ ?_
        refine a_lload_n (kX6_digest.at 47 rfl) 1 rfl ?_
        refine a_lmul (kX6_digest.at 48 rfl) ?_
        refine a_aload_n (kX6_digest.at 49 rfl) 0 rfl ?_
        refine a_iload_n (kX6_digest.at 50 rfl) 2 rfl ?_
        refine a_iconst (kX6_digest.at 51 rfl) rfl ?_
        refine AW.callV (as := [vI q, vI 0]) (st := [vL (wL (31 * h))]) (kX6_digest.at 52 rfl) ml_X6_222 sv_X6_pairsOf (k := 44) (io_44) rfl rfl ⟨Nat.le_of_ble_eq_true rfl, Nat.le_of_ble_eq_true rfl⟩ ⟨Nat.le_refl _, Nat.le_refl _⟩ rfl rfl (Nat.le_of_ble_eq_true rfl) (c_pairsOf G M q 0 hB (by omega)) (kIE ?_)
        refine a_i2l (kX6_digest.at 53 rfl) ?_
        refine a_ladd (kX6_digest.at 54 rfl) ?_
        refine a_lstore_n (ls' := [(0, vR 44), (1, vL (wL ((wL (31 * h)) + (pairsOf M q 0)))), (3, vI q)]) (kX6_digest.at 55 rfl) (by decide) rfl ?_
        refine a_ldc2 (kX6_digest.at 56 rfl) cl_X6_320 (31) rfl ⟨by decide, by decide⟩ ?_
        refine a_lload_n (kX6_digest.at 57 rfl) 1 rfl ?_
        refine a_lmul (kX6_digest.at 58 rfl) ?_
        refine a_aload_n (kX6_digest.at 59 rfl) 0 rfl ?_
        refine a_iload_n (kX6_digest.at 60 rfl) 2 rfl ?_
        refine a_iconst (kX6_digest.at 61 rfl) rfl ?_
        refine AW.callV (as := [vI q, vI 1]) (st := [vL (wL (31 * (wL ((wL (31 * h)) + (pairsOf M q 0)))))]) (kX6_digest.at 62 rfl) ml_X6_222 sv_X6_pairsOf (k := 44) (io_44) rfl rfl ⟨Nat.le_of_ble_eq_true rfl, Nat.le_of_ble_eq_true rfl⟩ ⟨Nat.le_refl _, Nat.le_refl _⟩ rfl rfl (Nat.le_of_ble_eq_true rfl) (c_pairsOf G M q 1 hB (by omega)) (kIE ?_)
        refine a_i2l (kX6_digest.at 63 rfl) ?_
        refine a_ladd (kX6_digest.at 64 rfl) ?_
        refine a_lstore_n (ls' := [(0, vR 44), (1, vL (wL ((wL (31 * (wL ((wL (31 * h)) + (pairsOf M q 0))))) + (pairsOf M q 1)))), (3, vI q)]) (kX6_digest.at 65 rfl) (by decide) rfl ?_
        refine a_iinc (ls' := [(0, vR 44), (1, vL (wL ((wL (31 * (wL ((wL (31 * h)) + (pairsOf M q 0))))) + (pairsOf M q 1)))), (3, vI (q + 1))]) (kX6_digest.at 66 rfl) 2 rfl (by decide) (inr (by omega)) rfl ?_
        refine a_goto (tgt := 72) (kX6_digest.at 67 rfl) (by decide) ?_
        exact ih ((q + 1)) ((wL ((wL (31 * (wL ((wL (31 * h)) + (pairsOf M q 0))))) + (pairsOf M q 1)))) (by omega) (by omega) (by rw [forR_succ hk0, ← e_h] <;> (clear ih kk e_h; rfl)) (by omega)
  exact key ((16) - (0) + 1 : Int).toNat (0) h0 (Int.le_refl _) hlohi (forR_nil (Int.le_refl _)).symm  (by omega)
set_option maxHeartbeats 4000000 in
set_option maxRecDepth 100000 in
theorem l_dig4 (G : GT) (M : Mem) (h0 : Int) (P : Option AV → Mem → Prop) (hB : HB M) (hlohi : (0 : Int) ≤ 10) (kk : AW G RX6 cX6_digest 4 (some .long) (XM G 9 P) 156 [(0, vR 44), (1, vL (forR 0 10 (dg4F M) h0)), (3, vI 10)] [] M) : AW G RX6 cX6_digest 4 (some .long) (XM G 9 P) 114 [(0, vR 44), (1, vL h0), (3, vI 0)] [] M := by
  have key : ∀ (nn : Nat) (x : Int) (h : Int), (0 : Int) ≤ x → x ≤ 10 → h = forR 0 x (dg4F M) h0 → 10 - x < nn → AW G RX6 cX6_digest 4 (some .long) (XM G 9 P) 114 [(0, vR 44), (1, vL h), (3, vI x)] [] M := by
    intro nn
    induction nn with
    | zero => intro x h hk0 hk1 e_h  hn; omega
    | succ nn ih =>
      intro x h hk0 hk1 e_h  hn
      have hp := hB.1
      refine a_iload_n (kX6_digest.at 70 rfl) 2 rfl ?_
      refine a_bipush (kX6_digest.at 71 rfl) rfl rfl ?_
      refine a_icmpge (tgt := 156) (kX6_digest.at 72 rfl) (by decide) (fun h117 => ?_) (fun h117 => ?_)
      · obtain rfl : x = 10 := by omega
        subst e_h
        exact kk 
      · refine a_ldc2 (kX6_digest.at 73 rfl) cl_X6_320 (31) rfl ⟨by decide, by decide⟩ ?_
        refine a_lload_n (kX6_digest.at 74 rfl) 1 rfl ?_
        refine a_lmul (kX6_digest.at 75 rfl) ?_
        refine a_aload_n (kX6_digest.at 76 rfl) 0 rfl ?_
        refine a_bipush (kX6_digest.at 77 rfl) rfl rfl ?_
        refine a_iload_n (kX6_digest.at 78 rfl) 2 rfl ?_
        refine AW.callV (as := [vI 7, vI x]) (st := [vL (wL (31 * h))]) (kX6_digest.at 79 rfl) ml_X6_212 sv_X6_houseOf (k := 44) (io_44) rfl rfl ⟨Nat.le_of_ble_eq_true rfl, Nat.le_of_ble_eq_true rfl⟩ ⟨Nat.le_refl _, Nat.le_refl _⟩ rfl rfl (Nat.le_of_ble_eq_true rfl) (c_houseOf G M 7 x (by omega) (by omega)) (kIE ?_)
        refine a_i2l (kX6_digest.at 80 rfl) ?_
        refine a_ladd (kX6_digest.at 81 rfl) ?_
        refine a_lstore_n (ls' := [(0, vR 44), (1, vL (wL ((wL (31 * h)) + (houseOf M 7 x)))), (3, vI x)]) (kX6_digest.at 82 rfl) (by decide) rfl ?_
        refine a_ldc2 (kX6_digest.at 83 rfl) cl_X6_320 (31) rfl ⟨by decide, by decide⟩ ?_
        refine a_lload_n (kX6_digest.at 84 rfl) 1 rfl ?_
        refine a_lmul (kX6_digest.at 85 rfl) ?_
        refine a_aload_n (kX6_digest.at 86 rfl) 0 rfl ?_
        refine a_bipush (kX6_digest.at 87 rfl) rfl rfl ?_
        refine a_iload_n (kX6_digest.at 88 rfl) 2 rfl ?_
        refine AW.callV (as := [vI 15, vI x]) (st := [vL (wL (31 * (wL ((wL (31 * h)) + (houseOf M 7 x)))))]) (kX6_digest.at 89 rfl) ml_X6_212 sv_X6_houseOf (k := 44) (io_44) rfl rfl ⟨Nat.le_of_ble_eq_true rfl, Nat.le_of_ble_eq_true rfl⟩ ⟨Nat.le_refl _, Nat.le_refl _⟩ rfl rfl (Nat.le_of_ble_eq_true rfl) (c_houseOf G M 15 x (by omega) (by omega)) (kIE ?_)
        refine a_i2l (kX6_digest.at 90 rfl) ?_
        refine a_ladd (kX6_digest.at 91 rfl) ?_
        refine a_lstore_n (ls' := [(0, vR 44), (1, vL (wL ((wL (31 * (wL ((wL (31 * h)) + (houseOf M 7 x))))) + (houseOf M 15 x)))), (3, vI x)]) (kX6_digest.at 92 rfl) (by decide) rfl ?_
        refine a_iinc (ls' := [(0, vR 44), (1, vL (wL ((wL (31 * (wL ((wL (31 * h)) + (houseOf M 7 x))))) + (houseOf M 15 x)))), (3, vI (x + 1))]) (kX6_digest.at 93 rfl) 2 rfl (by decide) (inr (by omega)) rfl ?_
        refine a_goto (tgt := 114) (kX6_digest.at 94 rfl) (by decide) ?_
        exact ih ((x + 1)) ((wL ((wL (31 * (wL ((wL (31 * h)) + (houseOf M 7 x))))) + (houseOf M 15 x)))) (by omega) (by omega) (by rw [forR_succ hk0, ← e_h] <;> (clear ih kk e_h; rfl)) (by omega)
  exact key ((10) - (0) + 1 : Int).toNat (0) h0 (Int.le_refl _) hlohi (forR_nil (Int.le_refl _)).symm  (by omega)
theorem a_dig45 (G : GT) (M : Mem) (h0 : Int) (hB : BI M) (hQ : QI M) (P : Int → Mem → Prop) (hP : ∀ r M', r = dgT M h0 → Fq M M' → P r M') : AW G RX6 cX6_digest 4 (some .long) (XM G 9 (pL P)) 45 [(0, vR 44), (1, vL h0), (3, vI 0)] [] M := by
  have hp := hB.1.1.1
  refine l_dig2 G M h0 _ hB hQ (by omega) ?_
  intro N1 hF1
  show AW _ _ _ _ _ _ 66 [(0, vR 44), (1, vL (forR 0 (M 44 7) (dg2F M) h0)), (3, vI (M 44 7))] [] N1
  have hB1 := hB.Fq hF1
  have hQ1 := hQ.Fq hF1
  have i1 := hF1.ie hB.2.2
  have hH := lives_HB hB1.1.1
  have hF2 := hF1.trans (Fr_lives N1).q
  have hB2 := hB.Fq hF2
  have i2 := hF2.ie hB.2.2
  refine a_aload_n (kX6_digest.at 39 rfl) 0 rfl ?_
  refine AW.callV (as := []) (st := []) (kX6_digest.at 40 rfl) ml_X6_200 sv_X6_lives (k := 44) (io_44) rfl rfl ⟨Nat.le_of_ble_eq_true rfl, Nat.le_of_ble_eq_true rfl⟩ ⟨Nat.le_refl _, Nat.le_refl _⟩ rfl rfl (Nat.le_of_ble_eq_true rfl) (c_lives G N1 hB1.1.1 hB1.1.2) (kVE ?_)
  refine a_iconst (kX6_digest.at 41 rfl) rfl ?_
  refine a_istore_n (ls' := [(0, vR 44), (1, vL (forR 0 (M 44 7) (dg2F M) h0)), (3, vI 0)]) (kX6_digest.at 42 rfl) (by decide) rfl ?_
  refine l_dig3 G (lives N1) _ _ hH (by omega) ?_
  show AW _ _ _ _ _ _ 112 [(0, vR 44), (1, vL (forR 0 16 (dg3F (lives N1)) (forR 0 (M 44 7) (dg2F M) h0))), (3, vI 16)] [] (lives N1)
  refine a_iconst (kX6_digest.at 68 rfl) rfl ?_
  refine a_istore_n (ls' := [(0, vR 44), (1, vL (forR 0 16 (dg3F (lives N1)) (forR 0 (M 44 7) (dg2F M) h0))), (3, vI 0)]) (kX6_digest.at 69 rfl) (by decide) rfl ?_
  refine l_dig4 G (lives N1) _ _ hH (by omega) ?_
  show AW _ _ _ _ _ _ 156 [(0, vR 44), (1, vL (forR 0 10 (dg4F (lives N1)) (forR 0 16 (dg3F (lives N1)) (forR 0 (M 44 7) (dg2F M) h0)))), (3, vI 10)] [] (lives N1)
  refine a_ldc2 (kX6_digest.at 95 rfl) cl_X6_320 (31) rfl ⟨by decide, by decide⟩ ?_
  refine a_lload_n (kX6_digest.at 96 rfl) 1 rfl ?_
  refine a_lmul (kX6_digest.at 97 rfl) ?_
  refine a_aload_n (kX6_digest.at 98 rfl) 0 rfl ?_
  refine a_getI (x := (lives N1) 44 26) (kX6_digest.at 99 rfl) fg_X6_168 ii_44_26 (rfl) ?_
  refine a_i2l (kX6_digest.at 100 rfl) ?_
  refine a_ladd (kX6_digest.at 101 rfl) ?_
  refine a_lstore_n (ls' := [(0, vR 44), (1, vL (wL ((wL (31 * (forR 0 10 (dg4F (lives N1)) (forR 0 16 (dg3F (lives N1)) (forR 0 (M 44 7) (dg2F M) h0))))) + ((lives N1) 44 26)))), (3, vI 10)]) (kX6_digest.at 102 rfl) (by decide) rfl ?_
  refine a_ldc2 (kX6_digest.at 103 rfl) cl_X6_320 (31) rfl ⟨by decide, by decide⟩ ?_
  refine a_lload_n (kX6_digest.at 104 rfl) 1 rfl ?_
  refine a_lmul (kX6_digest.at 105 rfl) ?_
  refine a_aload_n (kX6_digest.at 106 rfl) 0 rfl ?_
  refine a_getI (x := (lives N1) 44 27) (kX6_digest.at 107 rfl) fg_X6_171 ii_44_27 (rfl) ?_
  refine a_i2l (kX6_digest.at 108 rfl) ?_
  refine a_ladd (kX6_digest.at 109 rfl) ?_
  refine a_lstore_n (ls' := [(0, vR 44), (1, vL (wL ((wL (31 * (wL ((wL (31 * (forR 0 10 (dg4F (lives N1)) (forR 0 16 (dg3F (lives N1)) (forR 0 (M 44 7) (dg2F M) h0))))) + ((lives N1) 44 26))))) + ((lives N1) 44 27)))), (3, vI 10)]) (kX6_digest.at 110 rfl) (by decide) rfl ?_
  refine a_ldc2 (kX6_digest.at 111 rfl) cl_X6_320 (31) rfl ⟨by decide, by decide⟩ ?_
  refine a_lload_n (kX6_digest.at 112 rfl) 1 rfl ?_
  refine a_lmul (kX6_digest.at 113 rfl) ?_
  refine a_aload_n (kX6_digest.at 114 rfl) 0 rfl ?_
  refine a_iconst (kX6_digest.at 115 rfl) rfl ?_
  refine AW.callV (as := [vI 0]) (st := [vL (wL (31 * (wL ((wL (31 * (wL ((wL (31 * (forR 0 10 (dg4F (lives N1)) (forR 0 16 (dg3F (lives N1)) (forR 0 (M 44 7) (dg2F M) h0))))) + ((lives N1) 44 26))))) + ((lives N1) 44 27)))))]) (kX6_digest.at 116 rfl) ml_X6_252 sv_X6_restBy (k := 44) (io_44) rfl rfl ⟨Nat.le_of_ble_eq_true rfl, Nat.le_of_ble_eq_true rfl⟩ ⟨Nat.le_refl _, Nat.le_refl _⟩ rfl rfl (Nat.le_of_ble_eq_true rfl) (c_restBy G (lives N1) 0 hB2) (kI fun r N3 hr => ?_)
  obtain ⟨rfl, hq3⟩ := hr
  rw [restS_E i2.1 hB]
  have hF3 := hF2.trans hq3
  have i3 := hF3.ie hB.2.2
  refine a_i2l (kX6_digest.at 117 rfl) ?_
  refine a_ladd (kX6_digest.at 118 rfl) ?_
  refine a_lstore_n (ls' := [(0, vR 44), (1, vL (wL ((wL (31 * (wL ((wL (31 * (wL ((wL (31 * (forR 0 10 (dg4F (lives N1)) (forR 0 16 (dg3F (lives N1)) (forR 0 (M 44 7) (dg2F M) h0))))) + ((lives N1) 44 26))))) + ((lives N1) 44 27))))) + (restS M 0)))), (3, vI 10)]) (kX6_digest.at 119 rfl) (by decide) rfl ?_
  refine a_ldc2 (kX6_digest.at 120 rfl) cl_X6_320 (31) rfl ⟨by decide, by decide⟩ ?_
  refine a_lload_n (kX6_digest.at 121 rfl) 1 rfl ?_
  refine a_lmul (kX6_digest.at 122 rfl) ?_
  refine a_aload_n (kX6_digest.at 123 rfl) 0 rfl ?_
  refine a_iconst (kX6_digest.at 124 rfl) rfl ?_
  refine AW.callV (as := [vI 1]) (st := [vL (wL (31 * (wL ((wL (31 * (wL ((wL (31 * (wL ((wL (31 * (forR 0 10 (dg4F (lives N1)) (forR 0 16 (dg3F (lives N1)) (forR 0 (M 44 7) (dg2F M) h0))))) + ((lives N1) 44 26))))) + ((lives N1) 44 27))))) + (restS M 0)))))]) (kX6_digest.at 125 rfl) ml_X6_252 sv_X6_restBy (k := 44) (io_44) rfl rfl ⟨Nat.le_of_ble_eq_true rfl, Nat.le_of_ble_eq_true rfl⟩ ⟨Nat.le_refl _, Nat.le_refl _⟩ rfl rfl (Nat.le_of_ble_eq_true rfl) (c_restBy G N3 1 (hB.Fq hF3)) (kI fun r N4 hr => ?_)
  obtain ⟨rfl, hq4⟩ := hr
  rw [restS_E i3.1 hB]
  have hF4 := hF3.trans hq4
  have i4 := hF4.ie hB.2.2
  refine a_i2l (kX6_digest.at 126 rfl) ?_
  refine a_ladd (kX6_digest.at 127 rfl) ?_
  refine a_lstore_n (ls' := [(0, vR 44), (1, vL (wL ((wL (31 * (wL ((wL (31 * (wL ((wL (31 * (wL ((wL (31 * (forR 0 10 (dg4F (lives N1)) (forR 0 16 (dg3F (lives N1)) (forR 0 (M 44 7) (dg2F M) h0))))) + ((lives N1) 44 26))))) + ((lives N1) 44 27))))) + (restS M 0))))) + (restS M 1)))), (3, vI 10)]) (kX6_digest.at 128 rfl) (by decide) rfl ?_
  refine a_ldc2 (kX6_digest.at 129 rfl) cl_X6_320 (31) rfl ⟨by decide, by decide⟩ ?_
  refine a_lload_n (kX6_digest.at 130 rfl) 1 rfl ?_
  refine a_lmul (kX6_digest.at 131 rfl) ?_
  refine a_aload_n (kX6_digest.at 132 rfl) 0 rfl ?_
  refine a_iconst (kX6_digest.at 133 rfl) rfl ?_
  refine AW.callV (as := [vI (-1)]) (st := [vL (wL (31 * (wL ((wL (31 * (wL ((wL (31 * (wL ((wL (31 * (wL ((wL (31 * (forR 0 10 (dg4F (lives N1)) (forR 0 16 (dg3F (lives N1)) (forR 0 (M 44 7) (dg2F M) h0))))) + ((lives N1) 44 26))))) + ((lives N1) 44 27))))) + (restS M 0))))) + (restS M 1)))))]) (kX6_digest.at 134 rfl) ml_X6_260 sv_X6_spareBy (k := 44) (io_44) rfl rfl ⟨Nat.le_of_ble_eq_true rfl, Nat.le_of_ble_eq_true rfl⟩ ⟨Nat.le_refl _, Nat.le_refl _⟩ rfl rfl (Nat.le_of_ble_eq_true rfl) (c_spareBy G N4 (-1) (hB.Fq hF4)) (kI fun r N5 hr => ?_)
  obtain ⟨rfl, hq5⟩ := hr
  rw [spareS_E i4.1 hB]
  have hF5 := hF4.trans hq5
  have i5 := hF5.ie hB.2.2
  refine a_i2l (kX6_digest.at 135 rfl) ?_
  refine a_ladd (kX6_digest.at 136 rfl) ?_
  refine a_lstore_n (ls' := [(0, vR 44), (1, vL (wL ((wL (31 * (wL ((wL (31 * (wL ((wL (31 * (wL ((wL (31 * (wL ((wL (31 * (forR 0 10 (dg4F (lives N1)) (forR 0 16 (dg3F (lives N1)) (forR 0 (M 44 7) (dg2F M) h0))))) + ((lives N1) 44 26))))) + ((lives N1) 44 27))))) + (restS M 0))))) + (restS M 1))))) + (spareS M (-1))))), (3, vI 10)]) (kX6_digest.at 137 rfl) (by decide) rfl ?_
  refine a_ldc2 (kX6_digest.at 138 rfl) cl_X6_320 (31) rfl ⟨by decide, by decide⟩ ?_
  refine a_lload_n (kX6_digest.at 139 rfl) 1 rfl ?_
  refine a_lmul (kX6_digest.at 140 rfl) ?_
  refine a_aload_n (kX6_digest.at 141 rfl) 0 rfl ?_
  refine a_iconst (kX6_digest.at 142 rfl) rfl ?_
  refine AW.callV (as := [vI 0]) (st := [vL (wL (31 * (wL ((wL (31 * (wL ((wL (31 * (wL ((wL (31 * (wL ((wL (31 * (wL ((wL (31 * (forR 0 10 (dg4F (lives N1)) (forR 0 16 (dg3F (lives N1)) (forR 0 (M 44 7) (dg2F M) h0))))) + ((lives N1) 44 26))))) + ((lives N1) 44 27))))) + (restS M 0))))) + (restS M 1))))) + (spareS M (-1))))))]) (kX6_digest.at 143 rfl) ml_X6_260 sv_X6_spareBy (k := 44) (io_44) rfl rfl ⟨Nat.le_of_ble_eq_true rfl, Nat.le_of_ble_eq_true rfl⟩ ⟨Nat.le_refl _, Nat.le_refl _⟩ rfl rfl (Nat.le_of_ble_eq_true rfl) (c_spareBy G N5 0 (hB.Fq hF5)) (kI fun r N6 hr => ?_)
  obtain ⟨rfl, hq6⟩ := hr
  rw [spareS_E i5.1 hB]
  have hF6 := hF5.trans hq6
  have i6 := hF6.ie hB.2.2
  refine a_i2l (kX6_digest.at 144 rfl) ?_
  refine a_ladd (kX6_digest.at 145 rfl) ?_
  refine a_lstore_n (ls' := [(0, vR 44), (1, vL (wL ((wL (31 * (wL ((wL (31 * (wL ((wL (31 * (wL ((wL (31 * (wL ((wL (31 * (wL ((wL (31 * (forR 0 10 (dg4F (lives N1)) (forR 0 16 (dg3F (lives N1)) (forR 0 (M 44 7) (dg2F M) h0))))) + ((lives N1) 44 26))))) + ((lives N1) 44 27))))) + (restS M 0))))) + (restS M 1))))) + (spareS M (-1)))))) + (spareS M 0)))), (3, vI 10)]) (kX6_digest.at 146 rfl) (by decide) rfl ?_
  refine a_ldc2 (kX6_digest.at 147 rfl) cl_X6_320 (31) rfl ⟨by decide, by decide⟩ ?_
  refine a_lload_n (kX6_digest.at 148 rfl) 1 rfl ?_
  refine a_lmul (kX6_digest.at 149 rfl) ?_
  refine a_aload_n (kX6_digest.at 150 rfl) 0 rfl ?_
  refine AW.callV (as := []) (st := [vL (wL (31 * (wL ((wL (31 * (wL ((wL (31 * (wL ((wL (31 * (wL ((wL (31 * (wL ((wL (31 * (wL ((wL (31 * (forR 0 10 (dg4F (lives N1)) (forR 0 16 (dg3F (lives N1)) (forR 0 (M 44 7) (dg2F M) h0))))) + ((lives N1) 44 26))))) + ((lives N1) 44 27))))) + (restS M 0))))) + (restS M 1))))) + (spareS M (-1)))))) + (spareS M 0)))))]) (kX6_digest.at 151 rfl) ml_X6_270 sv_X6_neverNow (k := 44) (io_44) rfl rfl ⟨Nat.le_of_ble_eq_true rfl, Nat.le_of_ble_eq_true rfl⟩ ⟨Nat.le_refl _, Nat.le_refl _⟩ rfl rfl (Nat.le_of_ble_eq_true rfl) (c_neverNow G N6 (hB.Fq hF6) (hQ.Fq hF6)) (kI fun r N7 hr => ?_)
  obtain ⟨rfl, hq7⟩ := hr
  rw [neverS_E i6 hB hQ]
  have hF7 := hF6.trans hq7
  have i7 := hF7.ie hB.2.2
  refine a_i2l (kX6_digest.at 152 rfl) ?_
  refine a_ladd (kX6_digest.at 153 rfl) ?_
  refine a_lstore_n (ls' := [(0, vR 44), (1, vL (wL ((wL (31 * (wL ((wL (31 * (wL ((wL (31 * (wL ((wL (31 * (wL ((wL (31 * (wL ((wL (31 * (wL ((wL (31 * (forR 0 10 (dg4F (lives N1)) (forR 0 16 (dg3F (lives N1)) (forR 0 (M 44 7) (dg2F M) h0))))) + ((lives N1) 44 26))))) + ((lives N1) 44 27))))) + (restS M 0))))) + (restS M 1))))) + (spareS M (-1)))))) + (spareS M 0))))) + (neverS M)))), (3, vI 10)]) (kX6_digest.at 154 rfl) (by decide) rfl ?_
  refine a_ldc2 (kX6_digest.at 155 rfl) cl_X6_320 (31) rfl ⟨by decide, by decide⟩ ?_
  refine a_lload_n (kX6_digest.at 156 rfl) 1 rfl ?_
  refine a_lmul (kX6_digest.at 157 rfl) ?_
  refine a_aload_n (kX6_digest.at 158 rfl) 0 rfl ?_
  refine a_bipush (kX6_digest.at 159 rfl) rfl rfl ?_
  refine a_bipush (kX6_digest.at 160 rfl) rfl rfl ?_
  refine a_iconst (kX6_digest.at 161 rfl) rfl ?_
  refine AW.callV (as := [vI 7, vI 6, vI 0]) (st := [vL (wL (31 * (wL ((wL (31 * (wL ((wL (31 * (wL ((wL (31 * (wL ((wL (31 * (wL ((wL (31 * (wL ((wL (31 * (wL ((wL (31 * (forR 0 10 (dg4F (lives N1)) (forR 0 16 (dg3F (lives N1)) (forR 0 (M 44 7) (dg2F M) h0))))) + ((lives N1) 44 26))))) + ((lives N1) 44 27))))) + (restS M 0))))) + (restS M 1))))) + (spareS M (-1)))))) + (spareS M 0))))) + (neverS M)))))]) (kX6_digest.at 162 rfl) ml_X6_314 sv_X6_decadesOf (k := 44) (io_44) rfl rfl ⟨Nat.le_of_ble_eq_true rfl, Nat.le_of_ble_eq_true rfl⟩ ⟨Nat.le_refl _, Nat.le_refl _⟩ rfl rfl (Nat.le_of_ble_eq_true rfl) (c_decadesOf G N7 7 6 0 (hB.Fq hF7) (by omega)) (kI fun r N8 hr => ?_)
  obtain ⟨rfl, hq8⟩ := hr
  rw [decadesS_E i7.1 hB _ _ _ (by omega)]
  have hF8 := hF7.trans hq8
  have i8 := hF8.ie hB.2.2
  refine a_i2l (kX6_digest.at 163 rfl) ?_
  refine a_ladd (kX6_digest.at 164 rfl) ?_
  refine a_lstore_n (ls' := [(0, vR 44), (1, vL (wL ((wL (31 * (wL ((wL (31 * (wL ((wL (31 * (wL ((wL (31 * (wL ((wL (31 * (wL ((wL (31 * (wL ((wL (31 * (wL ((wL (31 * (forR 0 10 (dg4F (lives N1)) (forR 0 16 (dg3F (lives N1)) (forR 0 (M 44 7) (dg2F M) h0))))) + ((lives N1) 44 26))))) + ((lives N1) 44 27))))) + (restS M 0))))) + (restS M 1))))) + (spareS M (-1)))))) + (spareS M 0))))) + (neverS M))))) + (decadesS M 7 6 0)))), (3, vI 10)]) (kX6_digest.at 165 rfl) (by decide) rfl ?_
  refine a_ldc2 (kX6_digest.at 166 rfl) cl_X6_320 (31) rfl ⟨by decide, by decide⟩ ?_
  refine a_lload_n (kX6_digest.at 167 rfl) 1 rfl ?_
  refine a_lmul (kX6_digest.at 168 rfl) ?_
  refine a_aload_n (kX6_digest.at 169 rfl) 0 rfl ?_
  refine a_bipush (kX6_digest.at 170 rfl) rfl rfl ?_
  refine a_bipush (kX6_digest.at 171 rfl) rfl rfl ?_
  refine a_iconst (kX6_digest.at 172 rfl) rfl ?_
  refine AW.callV (as := [vI 7, vI 6, vI 1]) (st := [vL (wL (31 * (wL ((wL (31 * (wL ((wL (31 * (wL ((wL (31 * (wL ((wL (31 * (wL ((wL (31 * (wL ((wL (31 * (wL ((wL (31 * (wL ((wL (31 * (forR 0 10 (dg4F (lives N1)) (forR 0 16 (dg3F (lives N1)) (forR 0 (M 44 7) (dg2F M) h0))))) + ((lives N1) 44 26))))) + ((lives N1) 44 27))))) + (restS M 0))))) + (restS M 1))))) + (spareS M (-1)))))) + (spareS M 0))))) + (neverS M))))) + (decadesS M 7 6 0)))))]) (kX6_digest.at 173 rfl) ml_X6_314 sv_X6_decadesOf (k := 44) (io_44) rfl rfl ⟨Nat.le_of_ble_eq_true rfl, Nat.le_of_ble_eq_true rfl⟩ ⟨Nat.le_refl _, Nat.le_refl _⟩ rfl rfl (Nat.le_of_ble_eq_true rfl) (c_decadesOf G N8 7 6 1 (hB.Fq hF8) (by omega)) (kI fun r N9 hr => ?_)
  obtain ⟨rfl, hq9⟩ := hr
  rw [decadesS_E i8.1 hB _ _ _ (by omega)]
  have hF9 := hF8.trans hq9
  refine a_i2l (kX6_digest.at 174 rfl) ?_
  refine a_ladd (kX6_digest.at 175 rfl) ?_
  exact a_lret (kX6_digest.at 176 rfl) (hP _ _ (by unfold dgT; rw [← dg34_E (lives_E i1.1 hp)]; rfl) hF9)
theorem c_digest (G : GT) (M : Mem) (h : MB M) : AM G yX6_digest cX6_digest 4 (some .long) 9 M [vR 44] (pL fun r M' => r = digS M ∧ Fp M M') := by
  refine AM.mk (own := RX6) rfl sv_X6_digest.1.2.2.2.2.2 (Nat.le_of_ble_eq_true rfl) rfl ?_
  refine a_ldc2 (kX6_digest.at 0 rfl) cl_X6_326 (17) rfl ⟨by decide, by decide⟩ ?_
  refine a_lstore_n (ls' := [(0, vR 44), (1, vL 17)]) (kX6_digest.at 1 rfl) (by decide) rfl ?_
  refine a_iconst (kX6_digest.at 2 rfl) rfl ?_
  refine a_istore_n (ls' := [(0, vR 44), (1, vL 17), (3, vI 0)]) (kX6_digest.at 3 rfl) (by decide) rfl ?_
  refine l_dig1 G M _ h (by omega) ?_
  intro N1 hF1
  show AW _ _ _ _ _ _ 31 [(0, vR 44), (1, vL (forR 0 8 (dg1F M) 17)), (3, vI 8)] [] N1
  have h1 := hF1.MB h
  have eR := reads_E hF1 h.1
  have hi := reads_InE hF1 h
  have hR := reads_BI h1
  have hR0 := reads_BI h
  have f0 := Ft_reads M h.1.1.1
  have f1 := Ft_reads N1 h1.1.1.1
  have e28 : (reads N1).1 44 28 = (reads M).1 44 28 := by rw [f1 44 28 (by omega) (by omega), f0 44 28 (by omega) (by omega), hF1 44 28 (by omega) (by omega) (by omega) (by omega) (by omega)]
  have e60 : ∀ j, (reads N1).1 60 j = (reads M).1 60 j := fun j => by rw [f1 60 j (by omega) (by omega), f0 60 j (by omega) (by omega), hF1 60 j (by omega) (by omega) (by omega) (by omega) (by omega)]
  refine a_ldc2 (kX6_digest.at 18 rfl) cl_X6_320 (31) rfl ⟨by decide, by decide⟩ ?_
  refine a_lload_n (kX6_digest.at 19 rfl) 1 rfl ?_
  refine a_lmul (kX6_digest.at 20 rfl) ?_
  refine a_aload_n (kX6_digest.at 21 rfl) 0 rfl ?_
  refine AW.callV (as := []) (st := [vL (wL (31 * (forR 0 8 (dg1F M) 17)))]) (kX6_digest.at 22 rfl) ml_X6_117 sv_X6_reads (k := 44) (io_44) rfl rfl ⟨Nat.le_of_ble_eq_true rfl, Nat.le_of_ble_eq_true rfl⟩ ⟨Nat.le_refl _, Nat.le_refl _⟩ rfl rfl (Nat.le_of_ble_eq_true rfl) (c_reads G N1 h1.1.1 h1.1.2.1) (kIE ?_)
  rw [eR.1]
  refine a_i2l (kX6_digest.at 23 rfl) ?_
  refine a_ladd (kX6_digest.at 24 rfl) ?_
  refine a_lstore_n (ls' := [(0, vR 44), (1, vL (wL ((wL (31 * (forR 0 8 (dg1F M) 17))) + ((reads N1).2)))), (3, vI 8)]) (kX6_digest.at 25 rfl) (by decide) rfl ?_
  refine a_iconst (kX6_digest.at 26 rfl) rfl ?_
  refine a_istore_n (ls' := [(0, vR 44), (1, vL (wL ((wL (31 * (forR 0 8 (dg1F M) 17))) + ((reads N1).2)))), (3, vI 0)]) (kX6_digest.at 27 rfl) (by decide) rfl ?_
  exact a_dig45 G _ _ hR.1 hR.2 _ (fun r M' h2 h3 => ⟨h2.trans (dgT_E ⟨hi, e28, e60⟩ hR0.1 hR0.2 _), hF1.trans ((reads_Fp h1.1).trans h3.fp)⟩)
