/-! ===== the reference: digest ===== -/
noncomputable def ds (h v : Int) : Int := wL (wL (31 * h) + v)
noncomputable def tellsQ (M : Mem) (q k h : Int) : Int := forR 0 4 (fun j x => ds x (atBy M q k j)) h
set_option maxHeartbeats 4000000 in
set_option maxRecDepth 100000 in
theorem l_tellsQ (G : GT) (M : Mem) (h q k : Int) (P : Option AV → Mem → Prop) (hq : 0 ≤ q ∧ q ≤ 15) (hk : 0 ≤ k ∧ k ≤ 7) (hlohi : (0 : Int) ≤ 4) (kk : AW G RX6 cX6_tellsQuarter 8 (some .long) (XM G 1 P) 37 [(0, vR 44), (1, vL h), (3, vI q), (4, vI k), (5, vL (forR 0 4 (fun j x => ds x (atBy M q k j)) h)), (7, vI 4)] [] M) : AW G RX6 cX6_tellsQuarter 8 (some .long) (XM G 1 P) 6 [(0, vR 44), (1, vL h), (3, vI q), (4, vI k), (5, vL h), (7, vI 0)] [] M := by
  have key : ∀ (nn : Nat) (j : Int) (x : Int), (0 : Int) ≤ j → j ≤ 4 → x = forR 0 j (fun j x => ds x (atBy M q k j)) h → 4 - j < nn → AW G RX6 cX6_tellsQuarter 8 (some .long) (XM G 1 P) 6 [(0, vR 44), (1, vL h), (3, vI q), (4, vI k), (5, vL x), (7, vI j)] [] M := by
    intro nn
    induction nn with
    | zero => intro j x hk0 hk1 e_x  hn; omega
    | succ nn ih =>
      intro j x hk0 hk1 e_x  hn
      refine a_iload (kX6_tellsQuarter.at 4 rfl) 5 rfl ?_
      refine a_iconst (kX6_tellsQuarter.at 5 rfl) rfl ?_
      refine a_icmpge (tgt := 37) (kX6_tellsQuarter.at 6 rfl) (by decide) (fun h9 => ?_) (fun h9 => ?_)
      · obtain rfl : j = 4 := by omega
        subst e_x
        exact kk 
      · refine a_ldc2 (kX6_tellsQuarter.at 7 rfl) cl_X6_320 (31) rfl ⟨by decide, by decide⟩ ?_
        refine a_lload (kX6_tellsQuarter.at 8 rfl) 4 rfl ?_
        refine a_lmul (kX6_tellsQuarter.at 9 rfl) ?_
        refine a_aload_n (kX6_tellsQuarter.at 10 rfl) 0 rfl ?_
        refine a_iload_n (kX6_tellsQuarter.at 11 rfl) 2 rfl ?_
        refine a_iload (kX6_tellsQuarter.at 12 rfl) 3 rfl ?_
        refine a_iload (kX6_tellsQuarter.at 13 rfl) 5 rfl ?_
        refine AW.callV (as := [vI q, vI k, vI j]) (st := [vL (wL (31 * x))]) (kX6_tellsQuarter.at 14 rfl) ml_X6_206 sv_X6_atBy (k := 44) (io_44) rfl rfl ⟨Nat.le_of_ble_eq_true rfl, Nat.le_of_ble_eq_true rfl⟩ ⟨Nat.le_refl _, Nat.le_refl _⟩ rfl rfl (Nat.le_of_ble_eq_true rfl) (c_atBy G M q k j (by omega) (by omega)) (kIE ?_)
        refine a_i2l (kX6_tellsQuarter.at 15 rfl) ?_
        refine a_ladd (kX6_tellsQuarter.at 16 rfl) ?_
        refine a_lstore (ls' := [(0, vR 44), (1, vL h), (3, vI q), (4, vI k), (5, vL (wL ((wL (31 * x)) + (atBy M q k j)))), (7, vI j)]) (kX6_tellsQuarter.at 17 rfl) (by decide) rfl ?_
        refine a_iinc (ls' := [(0, vR 44), (1, vL h), (3, vI q), (4, vI k), (5, vL (wL ((wL (31 * x)) + (atBy M q k j)))), (7, vI (j + 1))]) (kX6_tellsQuarter.at 18 rfl) 5 rfl (by decide) (inr (by omega)) rfl ?_
        refine a_goto (tgt := 6) (kX6_tellsQuarter.at 19 rfl) (by decide) ?_
        exact ih ((j + 1)) ((wL ((wL (31 * x)) + (atBy M q k j)))) (by omega) (by omega) (by rw [forR_succ hk0, ← e_x] <;> (clear ih kk e_x; rfl)) (by omega)
  exact key ((4) - (0) + 1 : Int).toNat (0) h (Int.le_refl _) hlohi (forR_nil (Int.le_refl _)).symm  (by omega)
theorem c_tellsQ (G : GT) (M : Mem) (h q k : Int) (hq : 0 ≤ q ∧ q ≤ 15) (hk : 0 ≤ k ∧ k ≤ 7) : AM G yX6_tellsQuarter cX6_tellsQuarter 8 (some .long) 1 M [vR 44, vL h, vI q, vI k] (qL (tellsQ M q k h) M) := by
  refine AM.mk (own := RX6) rfl sv_X6_tellsQuarter.1.2.2.2.2.2 (Nat.le_of_ble_eq_true rfl) rfl ?_
  refine a_lload_n (kX6_tellsQuarter.at 0 rfl) 1 rfl ?_
  refine a_lstore (ls' := [(0, vR 44), (1, vL h), (3, vI q), (4, vI k), (5, vL h)]) (kX6_tellsQuarter.at 1 rfl) (by decide) rfl ?_
  refine a_iconst (kX6_tellsQuarter.at 2 rfl) rfl ?_
  refine a_istore (ls' := [(0, vR 44), (1, vL h), (3, vI q), (4, vI k), (5, vL h), (7, vI 0)]) (kX6_tellsQuarter.at 3 rfl) (by decide) rfl ?_
  refine l_tellsQ G M h q k _ hq hk (by omega) ?_
  show AW _ _ _ _ _ _ 37 [(0, vR 44), (1, vL h), (3, vI q), (4, vI k), (5, vL (tellsQ M q k h)), (7, vI 4)] [] M
  refine a_lload (kX6_tellsQuarter.at 20 rfl) 4 rfl ?_
  exact a_lretE (kX6_tellsQuarter.at 21 rfl) (⟨rfl, rfl⟩)
noncomputable def tpP (M : Mem) (k h : Int) : Int := forR 0 3 (fun j x => ds x (M 50 (3 * k + j))) h
set_option maxHeartbeats 4000000 in
set_option maxRecDepth 100000 in
theorem l_tellsP (G : GT) (M : Mem) (h k : Int) (X : XT) (hk : 0 ≤ k ∧ k ≤ 7) (hlohi : (0 : Int) ≤ 3) (kk : AW G RX6 cX6_tellsPerson 7 (some .long) X 43 [(0, vR 44), (1, vL h), (3, vI k), (4, vL (forR 0 3 (fun j x => ds x (M 50 (3 * k + j))) h)), (6, vI 3)] [] M) : AW G RX6 cX6_tellsPerson 7 (some .long) X 10 [(0, vR 44), (1, vL h), (3, vI k), (4, vL h), (6, vI 0)] [] M := by
  have key : ∀ (nn : Nat) (j : Int) (x : Int), (0 : Int) ≤ j → j ≤ 3 → x = forR 0 j (fun j x => ds x (M 50 (3 * k + j))) h → 3 - j < nn → AW G RX6 cX6_tellsPerson 7 (some .long) X 10 [(0, vR 44), (1, vL h), (3, vI k), (4, vL x), (6, vI j)] [] M := by
    intro nn
    induction nn with
    | zero => intro j x hk0 hk1 e_x  hn; omega
    | succ nn ih =>
      intro j x hk0 hk1 e_x  hn
      refine a_iload (kX6_tellsPerson.at 6 rfl) 4 rfl ?_
      refine a_iconst (kX6_tellsPerson.at 7 rfl) rfl ?_
      refine a_icmpge (tgt := 43) (kX6_tellsPerson.at 8 rfl) (by decide) (fun h13 => ?_) (fun h13 => ?_)
      · obtain rfl : j = 3 := by omega
        subst e_x
        exact kk 
      · refine a_ldc2 (kX6_tellsPerson.at 9 rfl) cl_X6_320 (31) rfl ⟨by decide, by decide⟩ ?_
        refine a_lload (kX6_tellsPerson.at 10 rfl) 3 rfl ?_
        refine a_lmul (kX6_tellsPerson.at 11 rfl) ?_
        refine a_aload_n (kX6_tellsPerson.at 12 rfl) 0 rfl ?_
        refine a_getR (kX6_tellsPerson.at 13 rfl) fg_X6_25 ir_44_8 ?_
        refine a_iconst (kX6_tellsPerson.at 14 rfl) rfl ?_
        refine a_iload_n (kX6_tellsPerson.at 15 rfl) 2 rfl ?_
        refine a_imul (kX6_tellsPerson.at 16 rfl) (inr (by omega)) ?_
        refine a_iload (kX6_tellsPerson.at 17 rfl) 4 rfl ?_
        refine a_iadd (kX6_tellsPerson.at 18 rfl) (inr (by omega)) ?_
        refine a_iald (x := M 50 ((3 * k) + j)) (kX6_tellsPerson.at 19 rfl) (ia_50) (by omega) (rfl) ?_
        refine a_i2l (kX6_tellsPerson.at 20 rfl) ?_
        refine a_ladd (kX6_tellsPerson.at 21 rfl) ?_
        refine a_lstore (ls' := [(0, vR 44), (1, vL h), (3, vI k), (4, vL (wL ((wL (31 * x)) + (M 50 ((3 * k) + j))))), (6, vI j)]) (kX6_tellsPerson.at 22 rfl) (by decide) rfl ?_
        refine a_iinc (ls' := [(0, vR 44), (1, vL h), (3, vI k), (4, vL (wL ((wL (31 * x)) + (M 50 ((3 * k) + j))))), (6, vI (j + 1))]) (kX6_tellsPerson.at 23 rfl) 4 rfl (by decide) (inr (by omega)) rfl ?_
        refine a_goto (tgt := 10) (kX6_tellsPerson.at 24 rfl) (by decide) ?_
        exact ih ((j + 1)) ((wL ((wL (31 * x)) + (M 50 ((3 * k) + j))))) (by omega) (by omega) (by rw [forR_succ hk0, ← e_x] <;> (clear ih kk e_x; rfl)) (by omega)
  exact key ((3) - (0) + 1 : Int).toNat (0) h (Int.le_refl _) hlohi (forR_nil (Int.le_refl _)).symm  (by omega)
/-- behind the quarters: the rest of what is told of one -/
noncomputable def tpQ (M K : Mem) (k h : Int) : Int := tellsQ K 15 k (tellsQ K 10 k (tellsQ K 5 k (tellsQ K 0 k (tpP M k h))))
noncomputable def tpS (M : Mem) (k h : Int) : Int := ds (ds (ds (ds (ds (ds (ds (ds (ds (ds (ds (tpQ M (lives M) k h) (boredOf (lives M) k)) (friendsOf (lives M) k)) (settleS M k 0)) (settleS M k 1)) (thinkS M k 0)) (thinkS M k 1)) (thoughtS M k)) (sortS M k)) (askS M k)) (chanceS M 5 k 0)) (chanceS M 5 k 1)
theorem c_tellsPerson (G : GT) (M : Mem) (h k : Int) (hB : BI M) (hQ : QI M) (hk : 0 ≤ k ∧ k < M 44 7) : AM G yX6_tellsPerson cX6_tellsPerson 7 (some .long) 8 M [vR 44, vL h, vI k] (pL fun r M' => r = tpS M k h ∧ Fq M M') := by
  refine AM.mk (own := RX6) rfl sv_X6_tellsPerson.1.2.2.2.2.2 (Nat.le_of_ble_eq_true rfl) rfl ?_
  have hF0 : Fq M (lives M) := (Fr_lives M).q
  have hp := hB.1.1.1
  have e7 : lives M 44 7 = M 44 7 := (Fr_lives M).people
  have hHB := lives_HB hB.1.1
  have hpL : 0 ≤ lives M 44 7 ∧ lives M 44 7 ≤ 8 := by omega
  have e50 : ∀ x, forR 0 3 (fun j x => ds x (lives M 50 (3 * k + j))) x = tpP M k x := fun x => forR_cong fun j y a b => by rw [(Fr_lives M) 50 _ (by omega) (by omega)]
  have cE : ∀ N, Fq M N → IE M N ∧ BI N ∧ QI N ∧ N 44 7 = M 44 7 := fun N hN => ⟨hN.ie hB.2.2, hB.Fq hN, hQ.Fq hN, hN.p⟩
  have c0 := cE _ hF0
  refine a_aload_n (kX6_tellsPerson.at 0 rfl) 0 rfl ?_
  refine AW.callV (as := []) (st := []) (kX6_tellsPerson.at 1 rfl) ml_X6_200 sv_X6_lives (k := 44) (io_44) rfl rfl ⟨Nat.le_of_ble_eq_true rfl, Nat.le_of_ble_eq_true rfl⟩ ⟨Nat.le_refl _, Nat.le_refl _⟩ rfl rfl (Nat.le_of_ble_eq_true rfl) (c_lives G M hB.1.1 hB.1.2) (kVE ?_)
  refine a_lload_n (kX6_tellsPerson.at 2 rfl) 1 rfl ?_
  refine a_lstore (ls' := [(0, vR 44), (1, vL h), (3, vI k), (4, vL h)]) (kX6_tellsPerson.at 3 rfl) (by decide) rfl ?_
  refine a_iconst (kX6_tellsPerson.at 4 rfl) rfl ?_
  refine a_istore (ls' := [(0, vR 44), (1, vL h), (3, vI k), (4, vL h), (6, vI 0)]) (kX6_tellsPerson.at 5 rfl) (by decide) rfl ?_
  refine l_tellsP G (lives M) h k _ (by omega) (by omega) ?_
  show AW _ _ _ _ _ _ 43 [(0, vR 44), (1, vL h), (3, vI k), (4, vL (forR 0 3 (fun j x => ds x (lives M 50 (3 * k + j))) h)), (6, vI 3)] [] (lives M)
  refine a_aload_n (kX6_tellsPerson.at 25 rfl) 0 rfl ?_
  refine a_aload_n (kX6_tellsPerson.at 26 rfl) 0 rfl ?_
  refine a_aload_n (kX6_tellsPerson.at 27 rfl) 0 rfl ?_
  refine a_aload_n (kX6_tellsPerson.at 28 rfl) 0 rfl ?_
  refine a_lload (kX6_tellsPerson.at 29 rfl) 3 rfl ?_
  refine a_iconst (kX6_tellsPerson.at 30 rfl) rfl ?_
  refine a_iload_n (kX6_tellsPerson.at 31 rfl) 2 rfl ?_
  refine AW.callV (as := [vL (forR 0 3 (fun j x => ds x (lives M 50 (3 * k + j))) h), vI 0, vI k]) (st := [vR 44, vR 44, vR 44]) (kX6_tellsPerson.at 32 rfl) ml_X6_322 sv_X6_tellsQuarter (k := 44) (io_44) rfl rfl ⟨Nat.le_of_ble_eq_true rfl, Nat.le_of_ble_eq_true rfl⟩ ⟨Nat.le_refl _, Nat.le_refl _⟩ rfl rfl (Nat.le_of_ble_eq_true rfl) (c_tellsQ G (lives M) (forR 0 3 (fun j x => ds x (lives M 50 (3 * k + j))) h) 0 k (by omega) (by omega)) (kLE ?_)
  refine a_iconst (kX6_tellsPerson.at 33 rfl) rfl ?_
  refine a_iload_n (kX6_tellsPerson.at 34 rfl) 2 rfl ?_
  refine AW.callV (as := [vL (tellsQ (lives M) 0 k (forR 0 3 (fun j x => ds x (lives M 50 (3 * k + j))) h)), vI 5, vI k]) (st := [vR 44, vR 44]) (kX6_tellsPerson.at 35 rfl) ml_X6_322 sv_X6_tellsQuarter (k := 44) (io_44) rfl rfl ⟨Nat.le_of_ble_eq_true rfl, Nat.le_of_ble_eq_true rfl⟩ ⟨Nat.le_refl _, Nat.le_refl _⟩ rfl rfl (Nat.le_of_ble_eq_true rfl) (c_tellsQ G (lives M) (tellsQ (lives M) 0 k (forR 0 3 (fun j x => ds x (lives M 50 (3 * k + j))) h)) 5 k (by omega) (by omega)) (kLE ?_)
  refine a_bipush (kX6_tellsPerson.at 36 rfl) rfl rfl ?_
  refine a_iload_n (kX6_tellsPerson.at 37 rfl) 2 rfl ?_
  refine AW.callV (as := [vL (tellsQ (lives M) 5 k (tellsQ (lives M) 0 k (forR 0 3 (fun j x => ds x (lives M 50 (3 * k + j))) h))), vI 10, vI k]) (st := [vR 44]) (kX6_tellsPerson.at 38 rfl) ml_X6_322 sv_X6_tellsQuarter (k := 44) (io_44) rfl rfl ⟨Nat.le_of_ble_eq_true rfl, Nat.le_of_ble_eq_true rfl⟩ ⟨Nat.le_refl _, Nat.le_refl _⟩ rfl rfl (Nat.le_of_ble_eq_true rfl) (c_tellsQ G (lives M) (tellsQ (lives M) 5 k (tellsQ (lives M) 0 k (forR 0 3 (fun j x => ds x (lives M 50 (3 * k + j))) h))) 10 k (by omega) (by omega)) (kLE ?_)
  refine a_bipush (kX6_tellsPerson.at 39 rfl) rfl rfl ?_
  refine a_iload_n (kX6_tellsPerson.at 40 rfl) 2 rfl ?_
  refine AW.callV (as := [vL (tellsQ (lives M) 10 k (tellsQ (lives M) 5 k (tellsQ (lives M) 0 k (forR 0 3 (fun j x => ds x (lives M 50 (3 * k + j))) h)))), vI 15, vI k]) (st := []) (kX6_tellsPerson.at 41 rfl) ml_X6_322 sv_X6_tellsQuarter (k := 44) (io_44) rfl rfl ⟨Nat.le_of_ble_eq_true rfl, Nat.le_of_ble_eq_true rfl⟩ ⟨Nat.le_refl _, Nat.le_refl _⟩ rfl rfl (Nat.le_of_ble_eq_true rfl) (c_tellsQ G (lives M) (tellsQ (lives M) 10 k (tellsQ (lives M) 5 k (tellsQ (lives M) 0 k (forR 0 3 (fun j x => ds x (lives M 50 (3 * k + j))) h)))) 15 k (by omega) (by omega)) (kLE ?_)
  refine a_lstore (ls' := [(0, vR 44), (1, vL h), (3, vI k), (4, vL (tellsQ (lives M) 15 k (tellsQ (lives M) 10 k (tellsQ (lives M) 5 k (tellsQ (lives M) 0 k (forR 0 3 (fun j x => ds x (lives M 50 (3 * k + j))) h)))))), (6, vI 3)]) (kX6_tellsPerson.at 42 rfl) (by decide) rfl ?_
  refine a_ldc2 (kX6_tellsPerson.at 43 rfl) cl_X6_320 (31) rfl ⟨by decide, by decide⟩ ?_
  refine a_lload (kX6_tellsPerson.at 44 rfl) 3 rfl ?_
  refine a_lmul (kX6_tellsPerson.at 45 rfl) ?_
  refine a_aload_n (kX6_tellsPerson.at 46 rfl) 0 rfl ?_
  refine a_iload_n (kX6_tellsPerson.at 47 rfl) 2 rfl ?_
  refine AW.callV (as := [vI k]) (st := [vL (wL (31 * (tellsQ (lives M) 15 k (tellsQ (lives M) 10 k (tellsQ (lives M) 5 k (tellsQ (lives M) 0 k (forR 0 3 (fun j x => ds x (lives M 50 (3 * k + j))) h)))))))]) (kX6_tellsPerson.at 48 rfl) ml_X6_225 sv_X6_boredOf (k := 44) (io_44) rfl rfl ⟨Nat.le_of_ble_eq_true rfl, Nat.le_of_ble_eq_true rfl⟩ ⟨Nat.le_refl _, Nat.le_refl _⟩ rfl rfl (Nat.le_of_ble_eq_true rfl) (c_boredOf G (lives M) k hHB (by omega)) (kIE ?_)
  refine a_i2l (kX6_tellsPerson.at 49 rfl) ?_
  refine a_ladd (kX6_tellsPerson.at 50 rfl) ?_
  refine a_lstore (ls' := [(0, vR 44), (1, vL h), (3, vI k), (4, vL (wL ((wL (31 * (tellsQ (lives M) 15 k (tellsQ (lives M) 10 k (tellsQ (lives M) 5 k (tellsQ (lives M) 0 k (forR 0 3 (fun j x => ds x (lives M 50 (3 * k + j))) h))))))) + (boredOf (lives M) k)))), (6, vI 3)]) (kX6_tellsPerson.at 51 rfl) (by decide) rfl ?_
  refine a_ldc2 (kX6_tellsPerson.at 52 rfl) cl_X6_320 (31) rfl ⟨by decide, by decide⟩ ?_
  refine a_lload (kX6_tellsPerson.at 53 rfl) 3 rfl ?_
  refine a_lmul (kX6_tellsPerson.at 54 rfl) ?_
  refine a_aload_n (kX6_tellsPerson.at 55 rfl) 0 rfl ?_
  refine a_iload_n (kX6_tellsPerson.at 56 rfl) 2 rfl ?_
  refine AW.callV (as := [vI k]) (st := [vL (wL (31 * (wL ((wL (31 * (tellsQ (lives M) 15 k (tellsQ (lives M) 10 k (tellsQ (lives M) 5 k (tellsQ (lives M) 0 k (forR 0 3 (fun j x => ds x (lives M 50 (3 * k + j))) h))))))) + (boredOf (lives M) k)))))]) (kX6_tellsPerson.at 57 rfl) ml_X6_237 sv_X6_friendsOf (k := 44) (io_44) rfl rfl ⟨Nat.le_of_ble_eq_true rfl, Nat.le_of_ble_eq_true rfl⟩ ⟨Nat.le_refl _, Nat.le_refl _⟩ rfl rfl (Nat.le_of_ble_eq_true rfl) (c_friendsOf G (lives M) k hpL (by omega)) (kIE ?_)
  refine a_i2l (kX6_tellsPerson.at 58 rfl) ?_
  refine a_ladd (kX6_tellsPerson.at 59 rfl) ?_
  refine a_lstore (ls' := [(0, vR 44), (1, vL h), (3, vI k), (4, vL (wL ((wL (31 * (wL ((wL (31 * (tellsQ (lives M) 15 k (tellsQ (lives M) 10 k (tellsQ (lives M) 5 k (tellsQ (lives M) 0 k (forR 0 3 (fun j x => ds x (lives M 50 (3 * k + j))) h))))))) + (boredOf (lives M) k))))) + (friendsOf (lives M) k)))), (6, vI 3)]) (kX6_tellsPerson.at 60 rfl) (by decide) rfl ?_
  refine a_ldc2 (kX6_tellsPerson.at 61 rfl) cl_X6_320 (31) rfl ⟨by decide, by decide⟩ ?_
  refine a_lload (kX6_tellsPerson.at 62 rfl) 3 rfl ?_
  refine a_lmul (kX6_tellsPerson.at 63 rfl) ?_
  refine a_aload_n (kX6_tellsPerson.at 64 rfl) 0 rfl ?_
  refine a_iload_n (kX6_tellsPerson.at 65 rfl) 2 rfl ?_
  refine a_iconst (kX6_tellsPerson.at 66 rfl) rfl ?_
  refine AW.callV (as := [vI k, vI 0]) (st := [vL (wL (31 * (wL ((wL (31 * (wL ((wL (31 * (tellsQ (lives M) 15 k (tellsQ (lives M) 10 k (tellsQ (lives M) 5 k (tellsQ (lives M) 0 k (forR 0 3 (fun j x => ds x (lives M 50 (3 * k + j))) h))))))) + (boredOf (lives M) k))))) + (friendsOf (lives M) k)))))]) (kX6_tellsPerson.at 67 rfl) ml_X6_246 sv_X6_settleOf (k := 44) (io_44) rfl rfl ⟨Nat.le_of_ble_eq_true rfl, Nat.le_of_ble_eq_true rfl⟩ ⟨Nat.le_refl _, Nat.le_refl _⟩ rfl rfl (Nat.le_of_ble_eq_true rfl) (c_settleOf G (lives M) k 0 c0.2.1 (by omega)) (kI fun r N1 hr => ?_)
  obtain ⟨rfl, hq1⟩ := hr
  rw [settleS_E c0.1.1 hB hk]
  have hF1 := hF0.trans hq1
  have c1 := cE _ hF1
  refine a_i2l (kX6_tellsPerson.at 68 rfl) ?_
  refine a_ladd (kX6_tellsPerson.at 69 rfl) ?_
  refine a_lstore (ls' := [(0, vR 44), (1, vL h), (3, vI k), (4, vL (wL ((wL (31 * (wL ((wL (31 * (wL ((wL (31 * (tellsQ (lives M) 15 k (tellsQ (lives M) 10 k (tellsQ (lives M) 5 k (tellsQ (lives M) 0 k (forR 0 3 (fun j x => ds x (lives M 50 (3 * k + j))) h))))))) + (boredOf (lives M) k))))) + (friendsOf (lives M) k))))) + (settleS M k 0)))), (6, vI 3)]) (kX6_tellsPerson.at 70 rfl) (by decide) rfl ?_
  refine a_ldc2 (kX6_tellsPerson.at 71 rfl) cl_X6_320 (31) rfl ⟨by decide, by decide⟩ ?_
  refine a_lload (kX6_tellsPerson.at 72 rfl) 3 rfl ?_
  refine a_lmul (kX6_tellsPerson.at 73 rfl) ?_
  refine a_aload_n (kX6_tellsPerson.at 74 rfl) 0 rfl ?_
  refine a_iload_n (kX6_tellsPerson.at 75 rfl) 2 rfl ?_
  refine a_iconst (kX6_tellsPerson.at 76 rfl) rfl ?_
  refine AW.callV (as := [vI k, vI 1]) (st := [vL (wL (31 * (wL ((wL (31 * (wL ((wL (31 * (wL ((wL (31 * (tellsQ (lives M) 15 k (tellsQ (lives M) 10 k (tellsQ (lives M) 5 k (tellsQ (lives M) 0 k (forR 0 3 (fun j x => ds x (lives M 50 (3 * k + j))) h))))))) + (boredOf (lives M) k))))) + (friendsOf (lives M) k))))) + (settleS M k 0)))))]) (kX6_tellsPerson.at 77 rfl) ml_X6_246 sv_X6_settleOf (k := 44) (io_44) rfl rfl ⟨Nat.le_of_ble_eq_true rfl, Nat.le_of_ble_eq_true rfl⟩ ⟨Nat.le_refl _, Nat.le_refl _⟩ rfl rfl (Nat.le_of_ble_eq_true rfl) (c_settleOf G N1 k 1 c1.2.1 (by omega)) (kI fun r N2 hr => ?_)
  obtain ⟨rfl, hq2⟩ := hr
  rw [settleS_E c1.1.1 hB hk]
  have hF2 := hF1.trans hq2
  have c2 := cE _ hF2
  refine a_i2l (kX6_tellsPerson.at 78 rfl) ?_
  refine a_ladd (kX6_tellsPerson.at 79 rfl) ?_
  refine a_lstore (ls' := [(0, vR 44), (1, vL h), (3, vI k), (4, vL (wL ((wL (31 * (wL ((wL (31 * (wL ((wL (31 * (wL ((wL (31 * (tellsQ (lives M) 15 k (tellsQ (lives M) 10 k (tellsQ (lives M) 5 k (tellsQ (lives M) 0 k (forR 0 3 (fun j x => ds x (lives M 50 (3 * k + j))) h))))))) + (boredOf (lives M) k))))) + (friendsOf (lives M) k))))) + (settleS M k 0))))) + (settleS M k 1)))), (6, vI 3)]) (kX6_tellsPerson.at 80 rfl) (by decide) rfl ?_
  refine a_ldc2 (kX6_tellsPerson.at 81 rfl) cl_X6_320 (31) rfl ⟨by decide, by decide⟩ ?_
  refine a_lload (kX6_tellsPerson.at 82 rfl) 3 rfl ?_
  refine a_lmul (kX6_tellsPerson.at 83 rfl) ?_
  refine a_aload_n (kX6_tellsPerson.at 84 rfl) 0 rfl ?_
  refine a_iload_n (kX6_tellsPerson.at 85 rfl) 2 rfl ?_
  refine a_iconst (kX6_tellsPerson.at 86 rfl) rfl ?_
  refine AW.callV (as := [vI k, vI 0]) (st := [vL (wL (31 * (wL ((wL (31 * (wL ((wL (31 * (wL ((wL (31 * (wL ((wL (31 * (tellsQ (lives M) 15 k (tellsQ (lives M) 10 k (tellsQ (lives M) 5 k (tellsQ (lives M) 0 k (forR 0 3 (fun j x => ds x (lives M 50 (3 * k + j))) h))))))) + (boredOf (lives M) k))))) + (friendsOf (lives M) k))))) + (settleS M k 0))))) + (settleS M k 1)))))]) (kX6_tellsPerson.at 87 rfl) ml_X6_249 sv_X6_thinkOf (k := 44) (io_44) rfl rfl ⟨Nat.le_of_ble_eq_true rfl, Nat.le_of_ble_eq_true rfl⟩ ⟨Nat.le_refl _, Nat.le_refl _⟩ rfl rfl (Nat.le_of_ble_eq_true rfl) (c_thinkOf G N2 k 0 c2.2.1) (kI fun r N3 hr => ?_)
  obtain ⟨rfl, hq3⟩ := hr
  rw [thinkS_E c2.1.1 hB]
  have hF3 := hF2.trans hq3
  have c3 := cE _ hF3
  refine a_i2l (kX6_tellsPerson.at 88 rfl) ?_
  refine a_ladd (kX6_tellsPerson.at 89 rfl) ?_
  refine a_lstore (ls' := [(0, vR 44), (1, vL h), (3, vI k), (4, vL (wL ((wL (31 * (wL ((wL (31 * (wL ((wL (31 * (wL ((wL (31 * (wL ((wL (31 * (tellsQ (lives M) 15 k (tellsQ (lives M) 10 k (tellsQ (lives M) 5 k (tellsQ (lives M) 0 k (forR 0 3 (fun j x => ds x (lives M 50 (3 * k + j))) h))))))) + (boredOf (lives M) k))))) + (friendsOf (lives M) k))))) + (settleS M k 0))))) + (settleS M k 1))))) + (thinkS M k 0)))), (6, vI 3)]) (kX6_tellsPerson.at 90 rfl) (by decide) rfl ?_
  refine a_ldc2 (kX6_tellsPerson.at 91 rfl) cl_X6_320 (31) rfl ⟨by decide, by decide⟩ ?_
  refine a_lload (kX6_tellsPerson.at 92 rfl) 3 rfl ?_
  refine a_lmul (kX6_tellsPerson.at 93 rfl) ?_
  refine a_aload_n (kX6_tellsPerson.at 94 rfl) 0 rfl ?_
  refine a_iload_n (kX6_tellsPerson.at 95 rfl) 2 rfl ?_
  refine a_iconst (kX6_tellsPerson.at 96 rfl) rfl ?_
  refine AW.callV (as := [vI k, vI 1]) (st := [vL (wL (31 * (wL ((wL (31 * (wL ((wL (31 * (wL ((wL (31 * (wL ((wL (31 * (wL ((wL (31 * (tellsQ (lives M) 15 k (tellsQ (lives M) 10 k (tellsQ (lives M) 5 k (tellsQ (lives M) 0 k (forR 0 3 (fun j x => ds x (lives M 50 (3 * k + j))) h))))))) + (boredOf (lives M) k))))) + (friendsOf (lives M) k))))) + (settleS M k 0))))) + (settleS M k 1))))) + (thinkS M k 0)))))]) (kX6_tellsPerson.at 97 rfl) ml_X6_249 sv_X6_thinkOf (k := 44) (io_44) rfl rfl ⟨Nat.le_of_ble_eq_true rfl, Nat.le_of_ble_eq_true rfl⟩ ⟨Nat.le_refl _, Nat.le_refl _⟩ rfl rfl (Nat.le_of_ble_eq_true rfl) (c_thinkOf G N3 k 1 c3.2.1) (kI fun r N4 hr => ?_)
  obtain ⟨rfl, hq4⟩ := hr
  rw [thinkS_E c3.1.1 hB]
  have hF4 := hF3.trans hq4
  have c4 := cE _ hF4
  refine a_i2l (kX6_tellsPerson.at 98 rfl) ?_
  refine a_ladd (kX6_tellsPerson.at 99 rfl) ?_
  refine a_lstore (ls' := [(0, vR 44), (1, vL h), (3, vI k), (4, vL (wL ((wL (31 * (wL ((wL (31 * (wL ((wL (31 * (wL ((wL (31 * (wL ((wL (31 * (wL ((wL (31 * (tellsQ (lives M) 15 k (tellsQ (lives M) 10 k (tellsQ (lives M) 5 k (tellsQ (lives M) 0 k (forR 0 3 (fun j x => ds x (lives M 50 (3 * k + j))) h))))))) + (boredOf (lives M) k))))) + (friendsOf (lives M) k))))) + (settleS M k 0))))) + (settleS M k 1))))) + (thinkS M k 0))))) + (thinkS M k 1)))), (6, vI 3)]) (kX6_tellsPerson.at 100 rfl) (by decide) rfl ?_
  refine a_ldc2 (kX6_tellsPerson.at 101 rfl) cl_X6_320 (31) rfl ⟨by decide, by decide⟩ ?_
  refine a_lload (kX6_tellsPerson.at 102 rfl) 3 rfl ?_
  refine a_lmul (kX6_tellsPerson.at 103 rfl) ?_
  refine a_aload_n (kX6_tellsPerson.at 104 rfl) 0 rfl ?_
  refine a_iload_n (kX6_tellsPerson.at 105 rfl) 2 rfl ?_
  refine AW.callV (as := [vI k]) (st := [vL (wL (31 * (wL ((wL (31 * (wL ((wL (31 * (wL ((wL (31 * (wL ((wL (31 * (wL ((wL (31 * (wL ((wL (31 * (tellsQ (lives M) 15 k (tellsQ (lives M) 10 k (tellsQ (lives M) 5 k (tellsQ (lives M) 0 k (forR 0 3 (fun j x => ds x (lives M 50 (3 * k + j))) h))))))) + (boredOf (lives M) k))))) + (friendsOf (lives M) k))))) + (settleS M k 0))))) + (settleS M k 1))))) + (thinkS M k 0))))) + (thinkS M k 1)))))]) (kX6_tellsPerson.at 106 rfl) ml_X6_273 sv_X6_thoughtOf (k := 44) (io_44) rfl rfl ⟨Nat.le_of_ble_eq_true rfl, Nat.le_of_ble_eq_true rfl⟩ ⟨Nat.le_refl _, Nat.le_refl _⟩ rfl rfl (Nat.le_of_ble_eq_true rfl) (c_thoughtOf G N4 k c4.2.1 c4.2.2.1 (by omega)) (kI fun r N5 hr => ?_)
  obtain ⟨rfl, hq5, -⟩ := hr
  rw [thoughtS_E c4.1 hB hQ]
  have hF5 := hF4.trans hq5
  have c5 := cE _ hF5
  refine a_i2l (kX6_tellsPerson.at 107 rfl) ?_
  refine a_ladd (kX6_tellsPerson.at 108 rfl) ?_
  refine a_lstore (ls' := [(0, vR 44), (1, vL h), (3, vI k), (4, vL (wL ((wL (31 * (wL ((wL (31 * (wL ((wL (31 * (wL ((wL (31 * (wL ((wL (31 * (wL ((wL (31 * (wL ((wL (31 * (tellsQ (lives M) 15 k (tellsQ (lives M) 10 k (tellsQ (lives M) 5 k (tellsQ (lives M) 0 k (forR 0 3 (fun j x => ds x (lives M 50 (3 * k + j))) h))))))) + (boredOf (lives M) k))))) + (friendsOf (lives M) k))))) + (settleS M k 0))))) + (settleS M k 1))))) + (thinkS M k 0))))) + (thinkS M k 1))))) + (thoughtS M k)))), (6, vI 3)]) (kX6_tellsPerson.at 109 rfl) (by decide) rfl ?_
  refine a_ldc2 (kX6_tellsPerson.at 110 rfl) cl_X6_320 (31) rfl ⟨by decide, by decide⟩ ?_
  refine a_lload (kX6_tellsPerson.at 111 rfl) 3 rfl ?_
  refine a_lmul (kX6_tellsPerson.at 112 rfl) ?_
  refine a_aload_n (kX6_tellsPerson.at 113 rfl) 0 rfl ?_
  refine a_iload_n (kX6_tellsPerson.at 114 rfl) 2 rfl ?_
  refine AW.callV (as := [vI k]) (st := [vL (wL (31 * (wL ((wL (31 * (wL ((wL (31 * (wL ((wL (31 * (wL ((wL (31 * (wL ((wL (31 * (wL ((wL (31 * (wL ((wL (31 * (tellsQ (lives M) 15 k (tellsQ (lives M) 10 k (tellsQ (lives M) 5 k (tellsQ (lives M) 0 k (forR 0 3 (fun j x => ds x (lives M 50 (3 * k + j))) h))))))) + (boredOf (lives M) k))))) + (friendsOf (lives M) k))))) + (settleS M k 0))))) + (settleS M k 1))))) + (thinkS M k 0))))) + (thinkS M k 1))))) + (thoughtS M k)))))]) (kX6_tellsPerson.at 115 rfl) ml_X6_276 sv_X6_sortOf (k := 44) (io_44) rfl rfl ⟨Nat.le_of_ble_eq_true rfl, Nat.le_of_ble_eq_true rfl⟩ ⟨Nat.le_refl _, Nat.le_refl _⟩ rfl rfl (Nat.le_of_ble_eq_true rfl) (c_sortOf G N5 k c5.2.1 c5.2.2.1 (by omega)) (kI fun r N6 hr => ?_)
  obtain ⟨rfl, hq6⟩ := hr
  rw [sortS_E c5.1 hB hQ]
  have hF6 := hF5.trans hq6
  have c6 := cE _ hF6
  refine a_i2l (kX6_tellsPerson.at 116 rfl) ?_
  refine a_ladd (kX6_tellsPerson.at 117 rfl) ?_
  refine a_lstore (ls' := [(0, vR 44), (1, vL h), (3, vI k), (4, vL (wL ((wL (31 * (wL ((wL (31 * (wL ((wL (31 * (wL ((wL (31 * (wL ((wL (31 * (wL ((wL (31 * (wL ((wL (31 * (wL ((wL (31 * (tellsQ (lives M) 15 k (tellsQ (lives M) 10 k (tellsQ (lives M) 5 k (tellsQ (lives M) 0 k (forR 0 3 (fun j x => ds x (lives M 50 (3 * k + j))) h))))))) + (boredOf (lives M) k))))) + (friendsOf (lives M) k))))) + (settleS M k 0))))) + (settleS M k 1))))) + (thinkS M k 0))))) + (thinkS M k 1))))) + (thoughtS M k))))) + (sortS M k)))), (6, vI 3)]) (kX6_tellsPerson.at 118 rfl) (by decide) rfl ?_
  refine a_ldc2 (kX6_tellsPerson.at 119 rfl) cl_X6_320 (31) rfl ⟨by decide, by decide⟩ ?_
  refine a_lload (kX6_tellsPerson.at 120 rfl) 3 rfl ?_
  refine a_lmul (kX6_tellsPerson.at 121 rfl) ?_
  refine a_aload_n (kX6_tellsPerson.at 122 rfl) 0 rfl ?_
  refine a_iload_n (kX6_tellsPerson.at 123 rfl) 2 rfl ?_
  refine AW.callV (as := [vI k]) (st := [vL (wL (31 * (wL ((wL (31 * (wL ((wL (31 * (wL ((wL (31 * (wL ((wL (31 * (wL ((wL (31 * (wL ((wL (31 * (wL ((wL (31 * (wL ((wL (31 * (tellsQ (lives M) 15 k (tellsQ (lives M) 10 k (tellsQ (lives M) 5 k (tellsQ (lives M) 0 k (forR 0 3 (fun j x => ds x (lives M 50 (3 * k + j))) h))))))) + (boredOf (lives M) k))))) + (friendsOf (lives M) k))))) + (settleS M k 0))))) + (settleS M k 1))))) + (thinkS M k 0))))) + (thinkS M k 1))))) + (thoughtS M k))))) + (sortS M k)))))]) (kX6_tellsPerson.at 124 rfl) ml_X6_288 sv_X6_askOf (k := 44) (io_44) rfl rfl ⟨Nat.le_of_ble_eq_true rfl, Nat.le_of_ble_eq_true rfl⟩ ⟨Nat.le_refl _, Nat.le_refl _⟩ rfl rfl (Nat.le_of_ble_eq_true rfl) (c_askOf G N6 k c6.2.1 c6.2.2.1 (by omega)) (kI fun r N7 hr => ?_)
  obtain ⟨rfl, hq7⟩ := hr
  rw [askS_E c6.1 hB hQ hk]
  have hF7 := hF6.trans hq7
  have c7 := cE _ hF7
  refine a_i2l (kX6_tellsPerson.at 125 rfl) ?_
  refine a_ladd (kX6_tellsPerson.at 126 rfl) ?_
  refine a_lstore (ls' := [(0, vR 44), (1, vL h), (3, vI k), (4, vL (wL ((wL (31 * (wL ((wL (31 * (wL ((wL (31 * (wL ((wL (31 * (wL ((wL (31 * (wL ((wL (31 * (wL ((wL (31 * (wL ((wL (31 * (wL ((wL (31 * (tellsQ (lives M) 15 k (tellsQ (lives M) 10 k (tellsQ (lives M) 5 k (tellsQ (lives M) 0 k (forR 0 3 (fun j x => ds x (lives M 50 (3 * k + j))) h))))))) + (boredOf (lives M) k))))) + (friendsOf (lives M) k))))) + (settleS M k 0))))) + (settleS M k 1))))) + (thinkS M k 0))))) + (thinkS M k 1))))) + (thoughtS M k))))) + (sortS M k))))) + (askS M k)))), (6, vI 3)]) (kX6_tellsPerson.at 127 rfl) (by decide) rfl ?_
  refine a_ldc2 (kX6_tellsPerson.at 128 rfl) cl_X6_320 (31) rfl ⟨by decide, by decide⟩ ?_
  refine a_lload (kX6_tellsPerson.at 129 rfl) 3 rfl ?_
  refine a_lmul (kX6_tellsPerson.at 130 rfl) ?_
  refine a_aload_n (kX6_tellsPerson.at 131 rfl) 0 rfl ?_
  refine a_iconst (kX6_tellsPerson.at 132 rfl) rfl ?_
  refine a_iload_n (kX6_tellsPerson.at 133 rfl) 2 rfl ?_
  refine a_iconst (kX6_tellsPerson.at 134 rfl) rfl ?_
  refine AW.callV (as := [vI 5, vI k, vI 0]) (st := [vL (wL (31 * (wL ((wL (31 * (wL ((wL (31 * (wL ((wL (31 * (wL ((wL (31 * (wL ((wL (31 * (wL ((wL (31 * (wL ((wL (31 * (wL ((wL (31 * (wL ((wL (31 * (tellsQ (lives M) 15 k (tellsQ (lives M) 10 k (tellsQ (lives M) 5 k (tellsQ (lives M) 0 k (forR 0 3 (fun j x => ds x (lives M 50 (3 * k + j))) h))))))) + (boredOf (lives M) k))))) + (friendsOf (lives M) k))))) + (settleS M k 0))))) + (settleS M k 1))))) + (thinkS M k 0))))) + (thinkS M k 1))))) + (thoughtS M k))))) + (sortS M k))))) + (askS M k)))))]) (kX6_tellsPerson.at 135 rfl) ml_X6_297 sv_X6_chanceOf (k := 44) (io_44) rfl rfl ⟨Nat.le_of_ble_eq_true rfl, Nat.le_of_ble_eq_true rfl⟩ ⟨Nat.le_refl _, Nat.le_refl _⟩ rfl rfl (Nat.le_of_ble_eq_true rfl) (c_chanceOf G N7 5 k 0 c7.2.1 (by omega) (by omega)) (kL fun r N8 hr => ?_)
  obtain ⟨rfl, hq8⟩ := hr
  rw [chanceS_E c7.1.1 hB hk]
  have hF8 := hF7.trans hq8
  have c8 := cE _ hF8
  refine a_ladd (kX6_tellsPerson.at 136 rfl) ?_
  refine a_lstore (ls' := [(0, vR 44), (1, vL h), (3, vI k), (4, vL (wL ((wL (31 * (wL ((wL (31 * (wL ((wL (31 * (wL ((wL (31 * (wL ((wL (31 * (wL ((wL (31 * (wL ((wL (31 * (wL ((wL (31 * (wL ((wL (31 * (wL ((wL (31 * (tellsQ (lives M) 15 k (tellsQ (lives M) 10 k (tellsQ (lives M) 5 k (tellsQ (lives M) 0 k (forR 0 3 (fun j x => ds x (lives M 50 (3 * k + j))) h))))))) + (boredOf (lives M) k))))) + (friendsOf (lives M) k))))) + (settleS M k 0))))) + (settleS M k 1))))) + (thinkS M k 0))))) + (thinkS M k 1))))) + (thoughtS M k))))) + (sortS M k))))) + (askS M k))))) + (chanceS M 5 k 0)))), (6, vI 3)]) (kX6_tellsPerson.at 137 rfl) (by decide) rfl ?_
  refine a_ldc2 (kX6_tellsPerson.at 138 rfl) cl_X6_320 (31) rfl ⟨by decide, by decide⟩ ?_
  refine a_lload (kX6_tellsPerson.at 139 rfl) 3 rfl ?_
  refine a_lmul (kX6_tellsPerson.at 140 rfl) ?_
  refine a_aload_n (kX6_tellsPerson.at 141 rfl) 0 rfl ?_
  refine a_iconst (kX6_tellsPerson.at 142 rfl) rfl ?_
  refine a_iload_n (kX6_tellsPerson.at 143 rfl) 2 rfl ?_
  refine a_iconst (kX6_tellsPerson.at 144 rfl) rfl ?_
  refine AW.callV (as := [vI 5, vI k, vI 1]) (st := [vL (wL (31 * (wL ((wL (31 * (wL ((wL (31 * (wL ((wL (31 * (wL ((wL (31 * (wL ((wL (31 * (wL ((wL (31 * (wL ((wL (31 * (wL ((wL (31 * (wL ((wL (31 * (wL ((wL (31 * (tellsQ (lives M) 15 k (tellsQ (lives M) 10 k (tellsQ (lives M) 5 k (tellsQ (lives M) 0 k (forR 0 3 (fun j x => ds x (lives M 50 (3 * k + j))) h))))))) + (boredOf (lives M) k))))) + (friendsOf (lives M) k))))) + (settleS M k 0))))) + (settleS M k 1))))) + (thinkS M k 0))))) + (thinkS M k 1))))) + (thoughtS M k))))) + (sortS M k))))) + (askS M k))))) + (chanceS M 5 k 0)))))]) (kX6_tellsPerson.at 145 rfl) ml_X6_297 sv_X6_chanceOf (k := 44) (io_44) rfl rfl ⟨Nat.le_of_ble_eq_true rfl, Nat.le_of_ble_eq_true rfl⟩ ⟨Nat.le_refl _, Nat.le_refl _⟩ rfl rfl (Nat.le_of_ble_eq_true rfl) (c_chanceOf G N8 5 k 1 c8.2.1 (by omega) (by omega)) (kL fun r N9 hr => ?_)
  obtain ⟨rfl, hq9⟩ := hr
  rw [chanceS_E c8.1.1 hB hk]
  refine a_ladd (kX6_tellsPerson.at 146 rfl) ?_
  exact a_lret (kX6_tellsPerson.at 147 rfl) (⟨by unfold tpS tpQ; rw [← e50]; rfl, hF8.trans hq9⟩)
