/-! ===== the reference: digest, the whole ===== -/
theorem tellsQ_E {M N : Mem} (h : OutE M N) {q k : Int} (hq : 0 ≤ q ∧ q ≤ 15) (hk : 0 ≤ k ∧ k < M 44 7) (x : Int) : tellsQ N q k x = tellsQ M q k x := forR_cong fun j y _ _ => by rw [atBy_E h hq hk]
theorem tpP_E {M N : Mem} (h : InE M N) {k : Int} (hk : 0 ≤ k ∧ k < M 44 7) (x : Int) : tpP N k x = tpP M k x := forR_cong fun j y _ _ => by rw [h.2.1 (3 * k + j) (by omega) (by omega)]
theorem tpS_E {M N : Mem} (h : IE M N) (hB : BI M) (hQ : QI M) {k : Int} (hk : 0 ≤ k ∧ k < M 44 7) (x : Int) : tpS N k x = tpS M k x := by
  have hO := lives_E h.1 hB.1.1.1
  have hk' : 0 ≤ k ∧ k < lives M 44 7 := by rw [(Fr_lives M).people]; exact hk
  unfold tpS tpQ
  rw [tpP_E h.1 hk, tellsQ_E hO (q := 0) (by omega) hk', tellsQ_E hO (q := 5) (by omega) hk', tellsQ_E hO (q := 10) (by omega) hk', tellsQ_E hO (q := 15) (by omega) hk', boredOf_E hO hk', friendsOf_E hO hk', settleS_E h.1 hB hk, settleS_E h.1 hB hk, thinkS_E h.1 hB, thinkS_E h.1 hB, thoughtS_E h hB hQ, sortS_E h hB hQ, askS_E h hB hQ hk, chanceS_E h.1 hB hk, chanceS_E h.1 hB hk]
theorem o_count_E {M N : Mem} (hF : Fp M N) (h : MB M) (w : Int) : o_count N w = o_count M w := by
  have hO := find_E hF h
  unfold o_count
  rw [hO.1.1.1.1, sumBy_E hO, rootedNow_E hO, hF 44 6 (by omega) (by omega) (by omega) (by omega) (by omega), hF 44 9 (by omega) (by omega) (by omega) (by omega) (by omega), hF 44 28 (by omega) (by omega) (by omega) (by omega) (by omega), hF 44 4 (by omega) (by omega) (by omega) (by omega) (by omega)]
noncomputable def dg1F (M : Mem) : Int → Int → Int := fun k h => ds h (o_count M k)
noncomputable def dg2F (M : Mem) : Int → Int → Int := fun k h => tpS M k h
noncomputable def dg3F (M : Mem) : Int → Int → Int := fun q h => ds (ds h (pairsOf M q 0)) (pairsOf M q 1)
noncomputable def dg4F (M : Mem) : Int → Int → Int := fun x h => ds (ds h (houseOf M 7 x)) (houseOf M 15 x)
noncomputable def dg34 (K : Mem) (h : Int) : Int := ds (ds (forR 0 10 (dg4F K) (forR 0 16 (dg3F K) h)) (K 44 26)) (K 44 27)
noncomputable def dg5 (M : Mem) (h : Int) : Int := ds (ds (ds (ds (ds (ds (ds h (restS M 0)) (restS M 1)) (spareS M (-1))) (spareS M 0)) (neverS M)) (decadesS M 7 6 0)) (decadesS M 7 6 1)
noncomputable def dgT (M : Mem) (h : Int) : Int := dg5 M (dg34 (lives M) (forR 0 (M 44 7) (dg2F M) h))
noncomputable def digS (M : Mem) : Int := dgT (reads M).1 (ds (forR 0 8 (dg1F M) 17) (reads M).2)
theorem dg34_E {M N : Mem} (h : OutE M N) (x : Int) : dg34 N x = dg34 M x := by
  have e3 : ∀ y, forR 0 16 (dg3F N) y = forR 0 16 (dg3F M) y := fun y => forR_cong fun q z a b => by unfold dg3F; rw [pairsOf_E h (q := q) (by omega), pairsOf_E h (q := q) (by omega)]
  have e4 : ∀ y, forR 0 10 (dg4F N) y = forR 0 10 (dg4F M) y := fun y => forR_cong fun q z a b => by unfold dg4F; rw [houseOf_E h (q := 7) (by omega), houseOf_E h (q := 15) (by omega)]
  unfold dg34
  rw [e3, e4, h.1.2.2.2.2.1, h.1.2.2.2.2.2]
theorem dg5_E {M N : Mem} (h : IE M N) (hB : BI M) (hQ : QI M) (x : Int) : dg5 N x = dg5 M x := by
  unfold dg5
  rw [restS_E h.1 hB, restS_E h.1 hB, spareS_E h.1 hB, spareS_E h.1 hB, neverS_E h hB hQ, decadesS_E h.1 hB _ _ _ (by omega), decadesS_E h.1 hB _ _ _ (by omega)]
theorem dg2_E {M N : Mem} (h : IE M N) (hB : BI M) (hQ : QI M) (x : Int) : forR 0 (N 44 7) (dg2F N) x = forR 0 (M 44 7) (dg2F M) x := by
  rw [h.1.1.1]
  exact forR_cong fun k y a b => by unfold dg2F; rw [tpS_E h hB hQ (k := k) (by omega)]
theorem dgT_E {M N : Mem} (h : IE M N) (hB : BI M) (hQ : QI M) (x : Int) : dgT N x = dgT M x := by
  unfold dgT
  rw [dg5_E h hB hQ, dg34_E (lives_E h.1 hB.1.1.1), dg2_E h hB hQ]
