/-! ===== the class: digest ===== -/
theorem AM.val {G : GT} {y : MethodName} {cc : ByteArray} {nL : Nat} {ret : Option FieldType} {lev : Nat} {M N : Mem} {as : List AV} {v v' : Int} (h : AM G y cc nL ret lev M as (qI v N)) (e : v = v') : AM G y cc nL ret lev M as (qI v' N) := e ▸ h
noncomputable def tpK (K : Mem) (k x : Int) : Int := ds (ds (ds (ds (ds (ds (ds (ds (ds (ds (ds x (o_bored K k)) (o_friends K k)) (o_settle K k 0)) (o_settle K k 1)) (o_think K k 0)) (o_think K k 1)) (o_was K k 0)) (o_was K k 1)) (o_ask K k)) (o_chance K 5 k 0)) (o_chance K 5 k 1)
theorem tpK_eq {K : Mem} (h : MB K) {k : Int} (hk : 0 ≤ k ∧ k < (reads K).1 44 7) (x : Int) : tpK K k (tpQ (reads K).1 (find K) k x) = tpS (reads K).1 k x := by
  have ef := find_p K
  have a1 : o_bored K k = boredOf (lives (reads K).1) k := if_pos (by omega)
  have a2 : o_friends K k = friendsOf (lives (reads K).1) k := if_pos (by omega)
  have a3 : o_settle K k 0 = settleS (reads K).1 k 0 := (if_pos (by omega)).trans (settle_eq h hk)
  have a4 : o_settle K k 1 = settleS (reads K).1 k 1 := (if_pos (by omega)).trans (settle_eq h hk)
  have a5 : o_think K k 0 = thinkS (reads K).1 k 0 := (if_pos (by omega)).trans (think_eq h)
  have a6 : o_think K k 1 = thinkS (reads K).1 k 1 := (if_pos (by omega)).trans (think_eq h)
  have a7 : o_was K k 0 = thoughtS (reads K).1 k := (if_pos (by omega)).trans ((was_eq h).trans (if_pos rfl))
  have a8 : o_was K k 1 = sortS (reads K).1 k := (if_pos (by omega)).trans ((was_eq h).trans (if_neg (by omega)))
  have a9 : o_ask K k = askS (reads K).1 k := (if_pos (by omega)).trans (askS_E (rf_IE h) (reads_BI h).1 (reads_BI h).2 hk)
  have b1 : o_chance K 5 k 0 = chanceS (reads K).1 5 k 0 := (if_pos (by omega)).trans (chanceS_E (rf_InE K) (reads_BI h).1 hk 5 0)
  have b2 : o_chance K 5 k 1 = chanceS (reads K).1 5 k 1 := (if_pos (by omega)).trans (chanceS_E (rf_InE K) (reads_BI h).1 hk 5 1)
  unfold tpK tpS
  rw [a1, a2, a3, a4, a5, a6, a7, a8, a9, b1, b2]
  rfl
set_option maxHeartbeats 4000000 in
set_option maxRecDepth 100000 in
theorem l_kdp (G : GT) (M K : Mem) (h0 k : Int) (P : Option AV → Mem → Prop) (hC : Cp M K) (h : MB K) (hk : 0 ≤ k ∧ k < (reads K).1 44 7) (hlohi : (0 : Int) ≤ 3) (kk : AW G RX5 cX5_digestOfPerson 8 (some .long) (XM G 5 P) 35 [(0, vR 0), (1, vL h0), (3, vI k), (4, vL (forR 0 3 (fun j x => ds x ((reads K).1 50 (3 * k + j))) h0)), (6, vI 3)] [] M) : AW G RX5 cX5_digestOfPerson 8 (some .long) (XM G 5 P) 6 [(0, vR 0), (1, vL h0), (3, vI k), (4, vL h0), (6, vI 0)] [] M := by
  have key : ∀ (nn : Nat) (j : Int) (x : Int), (0 : Int) ≤ j → j ≤ 3 → x = forR 0 j (fun j x => ds x ((reads K).1 50 (3 * k + j))) h0 → 3 - j < nn → AW G RX5 cX5_digestOfPerson 8 (some .long) (XM G 5 P) 6 [(0, vR 0), (1, vL h0), (3, vI k), (4, vL x), (6, vI j)] [] M := by
    intro nn
    induction nn with
    | zero => intro j x hk0 hk1 e_x  hn; omega
    | succ nn ih =>
      intro j x hk0 hk1 e_x  hn
      refine a_iload (kX5_digestOfPerson.at 4 rfl) 4 rfl ?_
      refine a_iconst (kX5_digestOfPerson.at 5 rfl) rfl ?_
      refine a_icmpge (tgt := 35) (kX5_digestOfPerson.at 6 rfl) (by decide) (fun h9 => ?_) (fun h9 => ?_)
      · subst e_x
        obtain rfl : j = 3 := by omega
        exact kk 
      · refine a_ldc2 (kX5_digestOfPerson.at 7 rfl) cl_X5_263 (31) rfl ⟨by decide, by decide⟩ ?_
        refine a_lload (kX5_digestOfPerson.at 8 rfl) 3 rfl ?_
        refine a_lmul (kX5_digestOfPerson.at 9 rfl) ?_
        refine a_aload_n (kX5_digestOfPerson.at 10 rfl) 0 rfl ?_
        refine a_iload_n (kX5_digestOfPerson.at 11 rfl) 2 rfl ?_
        refine a_iload (kX5_digestOfPerson.at 12 rfl) 4 rfl ?_
        refine AW.callV (as := [vI k, vI j]) (st := [vL (wL (31 * x))]) (kX5_digestOfPerson.at 13 rfl) ml_X5_296 sv_X5_person (k := 0) (io_0) rfl rfl ⟨Nat.le_of_ble_eq_true rfl, Nat.le_of_ble_eq_true rfl⟩ ⟨Nat.le_refl _, Nat.le_refl _⟩ rfl rfl (Nat.le_of_ble_eq_true rfl) ((k_person G M K k j hC h).val (if_pos (by omega))) (kIE ?_)
        refine a_i2l (kX5_digestOfPerson.at 14 rfl) ?_
        refine a_ladd (kX5_digestOfPerson.at 15 rfl) ?_
        refine a_lstore (ls' := [(0, vR 0), (1, vL h0), (3, vI k), (4, vL (wL ((wL (31 * x)) + ((reads K).1 50 (3 * k + j))))), (6, vI j)]) (kX5_digestOfPerson.at 16 rfl) (by decide) rfl ?_
        refine a_iinc (ls' := [(0, vR 0), (1, vL h0), (3, vI k), (4, vL (wL ((wL (31 * x)) + ((reads K).1 50 (3 * k + j))))), (6, vI (j + 1))]) (kX5_digestOfPerson.at 17 rfl) 4 rfl (by decide) (inr (by omega)) rfl ?_
        refine a_goto (tgt := 6) (kX5_digestOfPerson.at 18 rfl) (by decide) ?_
        exact ih ((j + 1)) ((wL ((wL (31 * x)) + ((reads K).1 50 (3 * k + j))))) (by omega) (by omega) (by rw [forR_succ hk0, ← e_x] <;> (clear ih kk e_x; rfl)) (by omega)
  exact key ((3) - (0) + 1 : Int).toNat (0) h0 (Int.le_refl _) hlohi (forR_nil (Int.le_refl _)).symm  (by omega)
set_option maxHeartbeats 4000000 in
set_option maxRecDepth 100000 in
theorem l_kdq0 (G : GT) (M K : Mem) (h0 k q x0 : Int) (P : Option AV → Mem → Prop) (hC : Cp M K) (h : MB K) (hk : 0 ≤ k ∧ k < (reads K).1 44 7) (hq : 0 ≤ q ∧ q ≤ 15) (hlohi : (0 : Int) ≤ 4) (kk : AW G RX5 cX5_digestOfPerson 8 (some .long) (XM G 5 P) 79 [(0, vR 0), (1, vL h0), (3, vI k), (4, vL (forR 0 4 (fun j x => ds x (atBy (find K) q k j)) x0)), (6, vI q), (7, vI 4)] [] M) : AW G RX5 cX5_digestOfPerson 8 (some .long) (XM G 5 P) 48 [(0, vR 0), (1, vL h0), (3, vI k), (4, vL x0), (6, vI q), (7, vI 0)] [] M := by
  have key : ∀ (nn : Nat) (j : Int) (x : Int), (0 : Int) ≤ j → j ≤ 4 → x = forR 0 j (fun j x => ds x (atBy (find K) q k j)) x0 → 4 - j < nn → AW G RX5 cX5_digestOfPerson 8 (some .long) (XM G 5 P) 48 [(0, vR 0), (1, vL h0), (3, vI k), (4, vL x), (6, vI q), (7, vI j)] [] M := by
    intro nn
    induction nn with
    | zero => intro j x hk0 hk1 e_x  hn; omega
    | succ nn ih =>
      intro j x hk0 hk1 e_x  hn
      have ef := find_p K
      refine a_iload (kX5_digestOfPerson.at 26 rfl) 5 rfl ?_
      refine a_iconst (kX5_digestOfPerson.at 27 rfl) rfl ?_
      refine a_icmpge (tgt := 79) (kX5_digestOfPerson.at 28 rfl) (by decide) (fun h51 => ?_) (fun h51 => ?_)
      · subst e_x
        obtain rfl : j = 4 := by omega
        exact kk 
      · refine a_ldc2 (kX5_digestOfPerson.at 29 rfl) cl_X5_263 (31) rfl ⟨by decide, by decide⟩ ?_
        refine a_lload (kX5_digestOfPerson.at 30 rfl) 3 rfl ?_
        refine a_lmul (kX5_digestOfPerson.at 31 rfl) ?_
        refine a_aload_n (kX5_digestOfPerson.at 32 rfl) 0 rfl ?_
        refine a_iload (kX5_digestOfPerson.at 33 rfl) 4 rfl ?_
        refine a_iload_n (kX5_digestOfPerson.at 34 rfl) 2 rfl ?_
        refine a_iload (kX5_digestOfPerson.at 35 rfl) 5 rfl ?_
        refine AW.callV (as := [vI q, vI k, vI j]) (st := [vL (wL (31 * x))]) (kX5_digestOfPerson.at 36 rfl) ml_X5_299 sv_X5_at (k := 0) (io_0) rfl rfl ⟨Nat.le_of_ble_eq_true rfl, Nat.le_of_ble_eq_true rfl⟩ ⟨Nat.le_refl _, Nat.le_refl _⟩ rfl rfl (Nat.le_of_ble_eq_true rfl) ((k_at G M K q k j hC h).val (if_pos (by omega))) (kIE ?_)
        refine a_i2l (kX5_digestOfPerson.at 37 rfl) ?_
        refine a_ladd (kX5_digestOfPerson.at 38 rfl) ?_
        refine a_lstore (ls' := [(0, vR 0), (1, vL h0), (3, vI k), (4, vL (wL ((wL (31 * x)) + (atBy (find K) q k j)))), (6, vI q), (7, vI j)]) (kX5_digestOfPerson.at 39 rfl) (by decide) rfl ?_
        refine a_iinc (ls' := [(0, vR 0), (1, vL h0), (3, vI k), (4, vL (wL ((wL (31 * x)) + (atBy (find K) q k j)))), (6, vI q), (7, vI (j + 1))]) (kX5_digestOfPerson.at 40 rfl) 5 rfl (by decide) (inr (by omega)) rfl ?_
        refine a_goto (tgt := 48) (kX5_digestOfPerson.at 41 rfl) (by decide) ?_
        exact ih ((j + 1)) ((wL ((wL (31 * x)) + (atBy (find K) q k j)))) (by omega) (by omega) (by rw [forR_succ hk0, ← e_x] <;> (clear ih kk e_x; rfl)) (by omega)
  exact key ((4) - (0) + 1 : Int).toNat (0) x0 (Int.le_refl _) hlohi (forR_nil (Int.le_refl _)).symm  (by omega)
set_option maxHeartbeats 4000000 in
theorem l_kdq (G : GT) (M K : Mem) (h0 k q x : Int) (P : Option AV → Mem → Prop) (hC : Cp M K) (h : MB K) (hk : 0 ≤ k ∧ k < (reads K).1 44 7) (hq : 0 ≤ q ∧ q ≤ 15) (kk : ∀ q', q' = q + 5 → AW G RX5 cX5_digestOfPerson 8 (some .long) (XM G 5 P) 38 [(0, vR 0), (1, vL h0), (3, vI k), (4, vL (tellsQ (find K) q k x)), (6, vI q')] [] M) : AW G RX5 cX5_digestOfPerson 8 (some .long) (XM G 5 P) 38 [(0, vR 0), (1, vL h0), (3, vI k), (4, vL x), (6, vI q)] [] M := by
  refine a_iload (kX5_digestOfPerson.at 21 rfl) 4 rfl ?_
  refine a_bipush (kX5_digestOfPerson.at 22 rfl) rfl rfl ?_
  refine a_icmpge (tgt := 85) (kX5_digestOfPerson.at 23 rfl) (by decide) (fun h42 => ?_) (fun h42 => ?_)
  · exfalso; omega
  · refine a_iconst (kX5_digestOfPerson.at 24 rfl) rfl ?_
    refine a_istore (ls' := [(0, vR 0), (1, vL h0), (3, vI k), (4, vL x), (6, vI q), (7, vI 0)]) (kX5_digestOfPerson.at 25 rfl) (by decide) rfl ?_
    refine l_kdq0 G M K h0 k q x _ hC h hk hq (by omega) ?_
    show AW _ _ _ _ _ _ 79 [(0, vR 0), (1, vL h0), (3, vI k), (4, vL (tellsQ (find K) q k x)), (6, vI q), (7, vI 4)] [] M
    refine a_iinc (ls' := [(0, vR 0), (1, vL h0), (3, vI k), (4, vL (tellsQ (find K) q k x)), (6, vI (q + 5)), (7, vI 4)]) (kX5_digestOfPerson.at 42 rfl) 4 rfl (by decide) (inr (by omega)) rfl ?_
    refine a_goto (tgt := 38) (kX5_digestOfPerson.at 43 rfl) (by decide) ?_
    refine AW.loc (ls' := [(0, vR 0), (1, vL h0), (3, vI k), (4, vL (tellsQ (find K) q k x)), (6, vI (q + 5))]) [0, 1, 2, 3, 4] rfl ?_
    exact kk (q + 5) rfl
set_option maxHeartbeats 4000000 in
theorem x_kdp (G : GT) (M K : Mem) (h0 k x q : Int) (P : Int → Mem → Prop) (hC : Cp M K) (h : MB K) (hq : 16 ≤ q) (hP : ∀ N, Cp N K → Fz M N → P (tpK K k x) N) : AW G RX5 cX5_digestOfPerson 8 (some .long) (XM G 5 (pL P)) 38 [(0, vR 0), (1, vL h0), (3, vI k), (4, vL x), (6, vI q)] [] M := by
  refine a_iload (kX5_digestOfPerson.at 21 rfl) 4 rfl ?_
  refine a_bipush (kX5_digestOfPerson.at 22 rfl) rfl rfl ?_
  refine a_icmpge (tgt := 85) (kX5_digestOfPerson.at 23 rfl) (by decide) (fun h42 => ?_) (fun h42 => ?_)
  · refine a_ldc2 (kX5_digestOfPerson.at 44 rfl) cl_X5_263 (31) rfl ⟨by decide, by decide⟩ ?_
    refine a_lload (kX5_digestOfPerson.at 45 rfl) 3 rfl ?_
    refine a_lmul (kX5_digestOfPerson.at 46 rfl) ?_
    refine a_aload_n (kX5_digestOfPerson.at 47 rfl) 0 rfl ?_
    refine a_iload_n (kX5_digestOfPerson.at 48 rfl) 2 rfl ?_
    refine AW.callV (as := [vI k]) (st := [vL (wL (31 * x))]) (kX5_digestOfPerson.at 49 rfl) ml_X5_302 sv_X5_bored (k := 0) (io_0) rfl rfl ⟨Nat.le_of_ble_eq_true rfl, Nat.le_of_ble_eq_true rfl⟩ ⟨Nat.le_refl _, Nat.le_refl _⟩ rfl rfl (Nat.le_of_ble_eq_true rfl) (k_bored G M K k hC h) (kIE ?_)
    refine a_i2l (kX5_digestOfPerson.at 50 rfl) ?_
    refine a_ladd (kX5_digestOfPerson.at 51 rfl) ?_
    refine a_lstore (ls' := [(0, vR 0), (1, vL h0), (3, vI k), (4, vL (wL ((wL (31 * x)) + (o_bored K k)))), (6, vI q)]) (kX5_digestOfPerson.at 52 rfl) (by decide) rfl ?_
    refine a_ldc2 (kX5_digestOfPerson.at 53 rfl) cl_X5_263 (31) rfl ⟨by decide, by decide⟩ ?_
    refine a_lload (kX5_digestOfPerson.at 54 rfl) 3 rfl ?_
    refine a_lmul (kX5_digestOfPerson.at 55 rfl) ?_
    refine a_aload_n (kX5_digestOfPerson.at 56 rfl) 0 rfl ?_
    refine a_iload_n (kX5_digestOfPerson.at 57 rfl) 2 rfl ?_
    refine AW.callV (as := [vI k]) (st := [vL (wL (31 * (wL ((wL (31 * x)) + (o_bored K k)))))]) (kX5_digestOfPerson.at 58 rfl) ml_X5_305 sv_X5_friends (k := 0) (io_0) rfl rfl ⟨Nat.le_of_ble_eq_true rfl, Nat.le_of_ble_eq_true rfl⟩ ⟨Nat.le_refl _, Nat.le_refl _⟩ rfl rfl (Nat.le_of_ble_eq_true rfl) (k_friends G M K k hC h) (kIE ?_)
    refine a_i2l (kX5_digestOfPerson.at 59 rfl) ?_
    refine a_ladd (kX5_digestOfPerson.at 60 rfl) ?_
    refine a_lstore (ls' := [(0, vR 0), (1, vL h0), (3, vI k), (4, vL (wL ((wL (31 * (wL ((wL (31 * x)) + (o_bored K k))))) + (o_friends K k)))), (6, vI q)]) (kX5_digestOfPerson.at 61 rfl) (by decide) rfl ?_
    refine a_ldc2 (kX5_digestOfPerson.at 62 rfl) cl_X5_263 (31) rfl ⟨by decide, by decide⟩ ?_
    refine a_lload (kX5_digestOfPerson.at 63 rfl) 3 rfl ?_
    refine a_lmul (kX5_digestOfPerson.at 64 rfl) ?_
    refine a_aload_n (kX5_digestOfPerson.at 65 rfl) 0 rfl ?_
    refine a_iload_n (kX5_digestOfPerson.at 66 rfl) 2 rfl ?_
    refine a_iconst (kX5_digestOfPerson.at 67 rfl) rfl ?_
    refine AW.callV (as := [vI k, vI 0]) (st := [vL (wL (31 * (wL ((wL (31 * (wL ((wL (31 * x)) + (o_bored K k))))) + (o_friends K k)))))]) (kX5_digestOfPerson.at 68 rfl) ml_X5_308 sv_X5_settle (k := 0) (io_0) rfl rfl ⟨Nat.le_of_ble_eq_true rfl, Nat.le_of_ble_eq_true rfl⟩ ⟨Nat.le_refl _, Nat.le_refl _⟩ rfl rfl (Nat.le_of_ble_eq_true rfl) (k_settle G M K k 0 hC h) (kI fun r N1 hr => ?_)
    obtain ⟨er, f1⟩ := hr; rw [er]; have hC1 := hC.y h f1
    refine a_i2l (kX5_digestOfPerson.at 69 rfl) ?_
    refine a_ladd (kX5_digestOfPerson.at 70 rfl) ?_
    refine a_lstore (ls' := [(0, vR 0), (1, vL h0), (3, vI k), (4, vL (wL ((wL (31 * (wL ((wL (31 * (wL ((wL (31 * x)) + (o_bored K k))))) + (o_friends K k))))) + (o_settle K k 0)))), (6, vI q)]) (kX5_digestOfPerson.at 71 rfl) (by decide) rfl ?_
    refine a_ldc2 (kX5_digestOfPerson.at 72 rfl) cl_X5_263 (31) rfl ⟨by decide, by decide⟩ ?_
    refine a_lload (kX5_digestOfPerson.at 73 rfl) 3 rfl ?_
    refine a_lmul (kX5_digestOfPerson.at 74 rfl) ?_
    refine a_aload_n (kX5_digestOfPerson.at 75 rfl) 0 rfl ?_
    refine a_iload_n (kX5_digestOfPerson.at 76 rfl) 2 rfl ?_
    refine a_iconst (kX5_digestOfPerson.at 77 rfl) rfl ?_
    refine AW.callV (as := [vI k, vI 1]) (st := [vL (wL (31 * (wL ((wL (31 * (wL ((wL (31 * (wL ((wL (31 * x)) + (o_bored K k))))) + (o_friends K k))))) + (o_settle K k 0)))))]) (kX5_digestOfPerson.at 78 rfl) ml_X5_308 sv_X5_settle (k := 0) (io_0) rfl rfl ⟨Nat.le_of_ble_eq_true rfl, Nat.le_of_ble_eq_true rfl⟩ ⟨Nat.le_refl _, Nat.le_refl _⟩ rfl rfl (Nat.le_of_ble_eq_true rfl) (k_settle G N1 K k 1 hC1 h) (kI fun r N2 hr => ?_)
    obtain ⟨er, f2⟩ := hr; rw [er]; have hC2 := hC1.y h f2
    refine a_i2l (kX5_digestOfPerson.at 79 rfl) ?_
    refine a_ladd (kX5_digestOfPerson.at 80 rfl) ?_
    refine a_lstore (ls' := [(0, vR 0), (1, vL h0), (3, vI k), (4, vL (wL ((wL (31 * (wL ((wL (31 * (wL ((wL (31 * (wL ((wL (31 * x)) + (o_bored K k))))) + (o_friends K k))))) + (o_settle K k 0))))) + (o_settle K k 1)))), (6, vI q)]) (kX5_digestOfPerson.at 81 rfl) (by decide) rfl ?_
    refine a_ldc2 (kX5_digestOfPerson.at 82 rfl) cl_X5_263 (31) rfl ⟨by decide, by decide⟩ ?_
    refine a_lload (kX5_digestOfPerson.at 83 rfl) 3 rfl ?_
    refine a_lmul (kX5_digestOfPerson.at 84 rfl) ?_
    refine a_aload_n (kX5_digestOfPerson.at 85 rfl) 0 rfl ?_
    refine a_iload_n (kX5_digestOfPerson.at 86 rfl) 2 rfl ?_
    refine a_iconst (kX5_digestOfPerson.at 87 rfl) rfl ?_
    refine AW.callV (as := [vI k, vI 0]) (st := [vL (wL (31 * (wL ((wL (31 * (wL ((wL (31 * (wL ((wL (31 * (wL ((wL (31 * x)) + (o_bored K k))))) + (o_friends K k))))) + (o_settle K k 0))))) + (o_settle K k 1)))))]) (kX5_digestOfPerson.at 88 rfl) ml_X5_311 sv_X5_think (k := 0) (io_0) rfl rfl ⟨Nat.le_of_ble_eq_true rfl, Nat.le_of_ble_eq_true rfl⟩ ⟨Nat.le_refl _, Nat.le_refl _⟩ rfl rfl (Nat.le_of_ble_eq_true rfl) (k_think G N2 K k 0 hC2 h) (kI fun r N3 hr => ?_)
    obtain ⟨er, f3⟩ := hr; rw [er]; have hC3 := hC2.y h f3
    refine a_i2l (kX5_digestOfPerson.at 89 rfl) ?_
    refine a_ladd (kX5_digestOfPerson.at 90 rfl) ?_
    refine a_lstore (ls' := [(0, vR 0), (1, vL h0), (3, vI k), (4, vL (wL ((wL (31 * (wL ((wL (31 * (wL ((wL (31 * (wL ((wL (31 * (wL ((wL (31 * x)) + (o_bored K k))))) + (o_friends K k))))) + (o_settle K k 0))))) + (o_settle K k 1))))) + (o_think K k 0)))), (6, vI q)]) (kX5_digestOfPerson.at 91 rfl) (by decide) rfl ?_
    refine a_ldc2 (kX5_digestOfPerson.at 92 rfl) cl_X5_263 (31) rfl ⟨by decide, by decide⟩ ?_
    refine a_lload (kX5_digestOfPerson.at 93 rfl) 3 rfl ?_
    refine a_lmul (kX5_digestOfPerson.at 94 rfl) ?_
    refine a_aload_n (kX5_digestOfPerson.at 95 rfl) 0 rfl ?_
    refine a_iload_n (kX5_digestOfPerson.at 96 rfl) 2 rfl ?_
    refine a_iconst (kX5_digestOfPerson.at 97 rfl) rfl ?_
    refine AW.callV (as := [vI k, vI 1]) (st := [vL (wL (31 * (wL ((wL (31 * (wL ((wL (31 * (wL ((wL (31 * (wL ((wL (31 * (wL ((wL (31 * x)) + (o_bored K k))))) + (o_friends K k))))) + (o_settle K k 0))))) + (o_settle K k 1))))) + (o_think K k 0)))))]) (kX5_digestOfPerson.at 98 rfl) ml_X5_311 sv_X5_think (k := 0) (io_0) rfl rfl ⟨Nat.le_of_ble_eq_true rfl, Nat.le_of_ble_eq_true rfl⟩ ⟨Nat.le_refl _, Nat.le_refl _⟩ rfl rfl (Nat.le_of_ble_eq_true rfl) (k_think G N3 K k 1 hC3 h) (kI fun r N4 hr => ?_)
    obtain ⟨er, f4⟩ := hr; rw [er]; have hC4 := hC3.y h f4
    refine a_i2l (kX5_digestOfPerson.at 99 rfl) ?_
    refine a_ladd (kX5_digestOfPerson.at 100 rfl) ?_
    refine a_lstore (ls' := [(0, vR 0), (1, vL h0), (3, vI k), (4, vL (wL ((wL (31 * (wL ((wL (31 * (wL ((wL (31 * (wL ((wL (31 * (wL ((wL (31 * (wL ((wL (31 * x)) + (o_bored K k))))) + (o_friends K k))))) + (o_settle K k 0))))) + (o_settle K k 1))))) + (o_think K k 0))))) + (o_think K k 1)))), (6, vI q)]) (kX5_digestOfPerson.at 101 rfl) (by decide) rfl ?_
    refine a_ldc2 (kX5_digestOfPerson.at 102 rfl) cl_X5_263 (31) rfl ⟨by decide, by decide⟩ ?_
    refine a_lload (kX5_digestOfPerson.at 103 rfl) 3 rfl ?_
    refine a_lmul (kX5_digestOfPerson.at 104 rfl) ?_
    refine a_aload_n (kX5_digestOfPerson.at 105 rfl) 0 rfl ?_
    refine a_iload_n (kX5_digestOfPerson.at 106 rfl) 2 rfl ?_
    refine a_iconst (kX5_digestOfPerson.at 107 rfl) rfl ?_
    refine AW.callV (as := [vI k, vI 0]) (st := [vL (wL (31 * (wL ((wL (31 * (wL ((wL (31 * (wL ((wL (31 * (wL ((wL (31 * (wL ((wL (31 * (wL ((wL (31 * x)) + (o_bored K k))))) + (o_friends K k))))) + (o_settle K k 0))))) + (o_settle K k 1))))) + (o_think K k 0))))) + (o_think K k 1)))))]) (kX5_digestOfPerson.at 108 rfl) ml_X5_314 sv_X5_was (k := 0) (io_0) rfl rfl ⟨Nat.le_of_ble_eq_true rfl, Nat.le_of_ble_eq_true rfl⟩ ⟨Nat.le_refl _, Nat.le_refl _⟩ rfl rfl (Nat.le_of_ble_eq_true rfl) (k_was G N4 K k 0 hC4 h) (kI fun r N5 hr => ?_)
    obtain ⟨er, f5⟩ := hr; rw [er]; have hC5 := hC4.y h f5
    refine a_i2l (kX5_digestOfPerson.at 109 rfl) ?_
    refine a_ladd (kX5_digestOfPerson.at 110 rfl) ?_
    refine a_lstore (ls' := [(0, vR 0), (1, vL h0), (3, vI k), (4, vL (wL ((wL (31 * (wL ((wL (31 * (wL ((wL (31 * (wL ((wL (31 * (wL ((wL (31 * (wL ((wL (31 * (wL ((wL (31 * x)) + (o_bored K k))))) + (o_friends K k))))) + (o_settle K k 0))))) + (o_settle K k 1))))) + (o_think K k 0))))) + (o_think K k 1))))) + (o_was K k 0)))), (6, vI q)]) (kX5_digestOfPerson.at 111 rfl) (by decide) rfl ?_
    refine a_ldc2 (kX5_digestOfPerson.at 112 rfl) cl_X5_263 (31) rfl ⟨by decide, by decide⟩ ?_
    refine a_lload (kX5_digestOfPerson.at 113 rfl) 3 rfl ?_
    refine a_lmul (kX5_digestOfPerson.at 114 rfl) ?_
    refine a_aload_n (kX5_digestOfPerson.at 115 rfl) 0 rfl ?_
    refine a_iload_n (kX5_digestOfPerson.at 116 rfl) 2 rfl ?_
    refine a_iconst (kX5_digestOfPerson.at 117 rfl) rfl ?_
    refine AW.callV (as := [vI k, vI 1]) (st := [vL (wL (31 * (wL ((wL (31 * (wL ((wL (31 * (wL ((wL (31 * (wL ((wL (31 * (wL ((wL (31 * (wL ((wL (31 * (wL ((wL (31 * x)) + (o_bored K k))))) + (o_friends K k))))) + (o_settle K k 0))))) + (o_settle K k 1))))) + (o_think K k 0))))) + (o_think K k 1))))) + (o_was K k 0)))))]) (kX5_digestOfPerson.at 118 rfl) ml_X5_314 sv_X5_was (k := 0) (io_0) rfl rfl ⟨Nat.le_of_ble_eq_true rfl, Nat.le_of_ble_eq_true rfl⟩ ⟨Nat.le_refl _, Nat.le_refl _⟩ rfl rfl (Nat.le_of_ble_eq_true rfl) (k_was G N5 K k 1 hC5 h) (kI fun r N6 hr => ?_)
    obtain ⟨er, f6⟩ := hr; rw [er]; have hC6 := hC5.y h f6
    refine a_i2l (kX5_digestOfPerson.at 119 rfl) ?_
    refine a_ladd (kX5_digestOfPerson.at 120 rfl) ?_
    refine a_lstore (ls' := [(0, vR 0), (1, vL h0), (3, vI k), (4, vL (wL ((wL (31 * (wL ((wL (31 * (wL ((wL (31 * (wL ((wL (31 * (wL ((wL (31 * (wL ((wL (31 * (wL ((wL (31 * (wL ((wL (31 * x)) + (o_bored K k))))) + (o_friends K k))))) + (o_settle K k 0))))) + (o_settle K k 1))))) + (o_think K k 0))))) + (o_think K k 1))))) + (o_was K k 0))))) + (o_was K k 1)))), (6, vI q)]) (kX5_digestOfPerson.at 121 rfl) (by decide) rfl ?_
    refine a_ldc2 (kX5_digestOfPerson.at 122 rfl) cl_X5_263 (31) rfl ⟨by decide, by decide⟩ ?_
    refine a_lload (kX5_digestOfPerson.at 123 rfl) 3 rfl ?_
    refine a_lmul (kX5_digestOfPerson.at 124 rfl) ?_
    refine a_aload_n (kX5_digestOfPerson.at 125 rfl) 0 rfl ?_
    refine a_iload_n (kX5_digestOfPerson.at 126 rfl) 2 rfl ?_
    refine AW.callV (as := [vI k]) (st := [vL (wL (31 * (wL ((wL (31 * (wL ((wL (31 * (wL ((wL (31 * (wL ((wL (31 * (wL ((wL (31 * (wL ((wL (31 * (wL ((wL (31 * (wL ((wL (31 * x)) + (o_bored K k))))) + (o_friends K k))))) + (o_settle K k 0))))) + (o_settle K k 1))))) + (o_think K k 0))))) + (o_think K k 1))))) + (o_was K k 0))))) + (o_was K k 1)))))]) (kX5_digestOfPerson.at 127 rfl) ml_X5_317 sv_X5_ask (k := 0) (io_0) rfl rfl ⟨Nat.le_of_ble_eq_true rfl, Nat.le_of_ble_eq_true rfl⟩ ⟨Nat.le_refl _, Nat.le_refl _⟩ rfl rfl (Nat.le_of_ble_eq_true rfl) (k_ask G N6 K k hC6 h) (kI fun r N7 hr => ?_)
    obtain ⟨er, f7⟩ := hr; rw [er]; have hC7 := hC6.y h f7
    refine a_i2l (kX5_digestOfPerson.at 128 rfl) ?_
    refine a_ladd (kX5_digestOfPerson.at 129 rfl) ?_
    refine a_lstore (ls' := [(0, vR 0), (1, vL h0), (3, vI k), (4, vL (wL ((wL (31 * (wL ((wL (31 * (wL ((wL (31 * (wL ((wL (31 * (wL ((wL (31 * (wL ((wL (31 * (wL ((wL (31 * (wL ((wL (31 * (wL ((wL (31 * x)) + (o_bored K k))))) + (o_friends K k))))) + (o_settle K k 0))))) + (o_settle K k 1))))) + (o_think K k 0))))) + (o_think K k 1))))) + (o_was K k 0))))) + (o_was K k 1))))) + (o_ask K k)))), (6, vI q)]) (kX5_digestOfPerson.at 130 rfl) (by decide) rfl ?_
    refine a_ldc2 (kX5_digestOfPerson.at 131 rfl) cl_X5_263 (31) rfl ⟨by decide, by decide⟩ ?_
    refine a_lload (kX5_digestOfPerson.at 132 rfl) 3 rfl ?_
    refine a_lmul (kX5_digestOfPerson.at 133 rfl) ?_
    refine a_aload_n (kX5_digestOfPerson.at 134 rfl) 0 rfl ?_
    refine a_iconst (kX5_digestOfPerson.at 135 rfl) rfl ?_
    refine a_iload_n (kX5_digestOfPerson.at 136 rfl) 2 rfl ?_
    refine a_iconst (kX5_digestOfPerson.at 137 rfl) rfl ?_
    refine AW.callV (as := [vI 5, vI k, vI 0]) (st := [vL (wL (31 * (wL ((wL (31 * (wL ((wL (31 * (wL ((wL (31 * (wL ((wL (31 * (wL ((wL (31 * (wL ((wL (31 * (wL ((wL (31 * (wL ((wL (31 * (wL ((wL (31 * x)) + (o_bored K k))))) + (o_friends K k))))) + (o_settle K k 0))))) + (o_settle K k 1))))) + (o_think K k 0))))) + (o_think K k 1))))) + (o_was K k 0))))) + (o_was K k 1))))) + (o_ask K k)))))]) (kX5_digestOfPerson.at 138 rfl) ml_X5_320 sv_X5_chance (k := 0) (io_0) rfl rfl ⟨Nat.le_of_ble_eq_true rfl, Nat.le_of_ble_eq_true rfl⟩ ⟨Nat.le_refl _, Nat.le_refl _⟩ rfl rfl (Nat.le_of_ble_eq_true rfl) (k_chance G N7 K 5 k 0 hC7 h) (kL fun r N8 hr => ?_)
    obtain ⟨er, hC8, f8⟩ := hr; rw [er]
    refine a_ladd (kX5_digestOfPerson.at 139 rfl) ?_
    refine a_lstore (ls' := [(0, vR 0), (1, vL h0), (3, vI k), (4, vL (wL ((wL (31 * (wL ((wL (31 * (wL ((wL (31 * (wL ((wL (31 * (wL ((wL (31 * (wL ((wL (31 * (wL ((wL (31 * (wL ((wL (31 * (wL ((wL (31 * (wL ((wL (31 * x)) + (o_bored K k))))) + (o_friends K k))))) + (o_settle K k 0))))) + (o_settle K k 1))))) + (o_think K k 0))))) + (o_think K k 1))))) + (o_was K k 0))))) + (o_was K k 1))))) + (o_ask K k))))) + (o_chance K 5 k 0)))), (6, vI q)]) (kX5_digestOfPerson.at 140 rfl) (by decide) rfl ?_
    refine a_ldc2 (kX5_digestOfPerson.at 141 rfl) cl_X5_263 (31) rfl ⟨by decide, by decide⟩ ?_
    refine a_lload (kX5_digestOfPerson.at 142 rfl) 3 rfl ?_
    refine a_lmul (kX5_digestOfPerson.at 143 rfl) ?_
    refine a_aload_n (kX5_digestOfPerson.at 144 rfl) 0 rfl ?_
    refine a_iconst (kX5_digestOfPerson.at 145 rfl) rfl ?_
    refine a_iload_n (kX5_digestOfPerson.at 146 rfl) 2 rfl ?_
    refine a_iconst (kX5_digestOfPerson.at 147 rfl) rfl ?_
    refine AW.callV (as := [vI 5, vI k, vI 1]) (st := [vL (wL (31 * (wL ((wL (31 * (wL ((wL (31 * (wL ((wL (31 * (wL ((wL (31 * (wL ((wL (31 * (wL ((wL (31 * (wL ((wL (31 * (wL ((wL (31 * (wL ((wL (31 * (wL ((wL (31 * x)) + (o_bored K k))))) + (o_friends K k))))) + (o_settle K k 0))))) + (o_settle K k 1))))) + (o_think K k 0))))) + (o_think K k 1))))) + (o_was K k 0))))) + (o_was K k 1))))) + (o_ask K k))))) + (o_chance K 5 k 0)))))]) (kX5_digestOfPerson.at 148 rfl) ml_X5_320 sv_X5_chance (k := 0) (io_0) rfl rfl ⟨Nat.le_of_ble_eq_true rfl, Nat.le_of_ble_eq_true rfl⟩ ⟨Nat.le_refl _, Nat.le_refl _⟩ rfl rfl (Nat.le_of_ble_eq_true rfl) (k_chance G N8 K 5 k 1 hC8 h) (kL fun r N9 hr => ?_)
    obtain ⟨er, hC9, f9⟩ := hr; rw [er]
    refine a_ladd (kX5_digestOfPerson.at 149 rfl) ?_
    exact a_lret (kX5_digestOfPerson.at 150 rfl) (hP N9 hC9 ((((((((f1.trans f2).trans f3).trans f4).trans f5).trans f6).trans f7).z.trans f8).trans f9))
  · exfalso; omega
theorem k_digP (G : GT) (M K : Mem) (x k : Int) (hC : Cp M K) (h : MB K) (hk : 0 ≤ k ∧ k < (reads K).1 44 7) : AM G yX5_digestOfPerson cX5_digestOfPerson 8 (some .long) 5 M [vR 0, vL x, vI k] (pL fun r N => r = tpS (reads K).1 k x ∧ Cp N K ∧ Fz M N) := by
  refine AM.mk (own := RX5) rfl sv_X5_digestOfPerson.1.2.2.2.2.2 (Nat.le_of_ble_eq_true rfl) rfl ?_
  refine a_lload_n (kX5_digestOfPerson.at 0 rfl) 1 rfl ?_
  refine a_lstore (ls' := [(0, vR 0), (1, vL x), (3, vI k), (4, vL x)]) (kX5_digestOfPerson.at 1 rfl) (by decide) rfl ?_
  refine a_iconst (kX5_digestOfPerson.at 2 rfl) rfl ?_
  refine a_istore (ls' := [(0, vR 0), (1, vL x), (3, vI k), (4, vL x), (6, vI 0)]) (kX5_digestOfPerson.at 3 rfl) (by decide) rfl ?_
  refine l_kdp G M K x k _ hC h hk (by omega) ?_
  show AW _ _ _ _ _ _ 35 [(0, vR 0), (1, vL x), (3, vI k), (4, vL (tpP (reads K).1 k x)), (6, vI 3)] [] M
  refine a_iconst (kX5_digestOfPerson.at 19 rfl) rfl ?_
  refine a_istore (ls' := [(0, vR 0), (1, vL x), (3, vI k), (4, vL (tpP (reads K).1 k x)), (6, vI 0)]) (kX5_digestOfPerson.at 20 rfl) (by decide) rfl ?_
  refine l_kdq G M K x k 0 _ _ hC h hk (by omega) (fun q1 e1 => ?_)
  obtain rfl : q1 = 5 := by omega
  refine l_kdq G M K x k 5 _ _ hC h hk (by omega) (fun q2 e2 => ?_)
  obtain rfl : q2 = 10 := by omega
  refine l_kdq G M K x k 10 _ _ hC h hk (by omega) (fun q3 e3 => ?_)
  obtain rfl : q3 = 15 := by omega
  refine l_kdq G M K x k 15 _ _ hC h hk (by omega) (fun q4 e4 => ?_)
  exact x_kdp G M K x k _ q4 _ hC h (by omega) (fun N a b => ⟨tpK_eq h hk x, a, b⟩)
set_option maxHeartbeats 4000000 in
set_option maxRecDepth 100000 in
theorem l_kd1 (G : GT) (M K : Mem) (P : Option AV → Mem → Prop) (hC : Cp M K) (h : MB K) (hlohi : (0 : Int) ≤ 8) (kk : AW G RX5 cX5_digest 4 (some .long) (XM G 6 P) 31 [(0, vR 0), (1, vL (forR 0 8 (dg1F K) 17)), (3, vI 8)] [] M) : AW G RX5 cX5_digest 4 (some .long) (XM G 6 P) 6 [(0, vR 0), (1, vL 17), (3, vI 0)] [] M := by
  have key : ∀ (nn : Nat) (k : Int) (x : Int), (0 : Int) ≤ k → k ≤ 8 → x = forR 0 k (dg1F K) 17 → 8 - k < nn → AW G RX5 cX5_digest 4 (some .long) (XM G 6 P) 6 [(0, vR 0), (1, vL x), (3, vI k)] [] M := by
    intro nn
    induction nn with
    | zero => intro k x hk0 hk1 e_x  hn; omega
    | succ nn ih =>
      intro k x hk0 hk1 e_x  hn
      refine a_iload_n (kX5_digest.at 4 rfl) 2 rfl ?_
      refine a_bipush (kX5_digest.at 5 rfl) rfl rfl ?_
      refine a_icmpgt (tgt := 31) (kX5_digest.at 6 rfl) (by decide) (fun h9 => ?_) (fun h9 => ?_)
      · subst e_x
        obtain rfl : k = 8 := by omega
        exact kk 
      · refine a_ldc2 (kX5_digest.at 7 rfl) cl_X5_263 (31) rfl ⟨by decide, by decide⟩ ?_
        refine a_lload_n (kX5_digest.at 8 rfl) 1 rfl ?_
        refine a_lmul (kX5_digest.at 9 rfl) ?_
        refine a_aload_n (kX5_digest.at 10 rfl) 0 rfl ?_
        refine a_iload_n (kX5_digest.at 11 rfl) 2 rfl ?_
        refine AW.callV (as := [vI k]) (st := [vL (wL (31 * x))]) (kX5_digest.at 12 rfl) ml_X5_265 sv_X5_count (k := 0) (io_0) rfl rfl ⟨Nat.le_of_ble_eq_true rfl, Nat.le_of_ble_eq_true rfl⟩ ⟨Nat.le_refl _, Nat.le_refl _⟩ rfl rfl (Nat.le_of_ble_eq_true rfl) (k_count G M K k hC h) (kIE ?_)
        refine a_i2l (kX5_digest.at 13 rfl) ?_
        refine a_ladd (kX5_digest.at 14 rfl) ?_
        refine a_lstore_n (ls' := [(0, vR 0), (1, vL (wL ((wL (31 * x)) + (o_count K k)))), (3, vI k)]) (kX5_digest.at 15 rfl) (by decide) rfl ?_
        refine a_iinc (ls' := [(0, vR 0), (1, vL (wL ((wL (31 * x)) + (o_count K k)))), (3, vI (k + 1))]) (kX5_digest.at 16 rfl) 2 rfl (by decide) (inr (by omega)) rfl ?_
        refine a_goto (tgt := 6) (kX5_digest.at 17 rfl) (by decide) ?_
        exact ih ((k + 1)) ((wL ((wL (31 * x)) + (o_count K k)))) (by omega) (by omega) (by rw [forR_succ hk0, ← e_x] <;> (clear ih kk e_x; rfl)) (by omega)
  exact key ((8) - (0) + 1 : Int).toNat (0) 17 (Int.le_refl _) hlohi (forR_nil (Int.le_refl _)).symm  (by omega)
set_option maxHeartbeats 4000000 in
set_option maxRecDepth 100000 in
theorem l_kd2 (G : GT) (M K : Mem) (h0 : Int) (P : Option AV → Mem → Prop) (hC : Cp M K) (h : MB K) (hlohi : (0 : Int) ≤ ((reads K).1 44 7)) (kk : ∀ (N : Mem), (Cp N K ∧ Fz M N) → AW G RX5 cX5_digest 4 (some .long) (XM G 6 P) 69 [(0, vR 0), (1, vL (forR 0 ((reads K).1 44 7) (dg2F (reads K).1) h0)), (3, vI ((reads K).1 44 7))] [] N) : AW G RX5 cX5_digest 4 (some .long) (XM G 6 P) 45 [(0, vR 0), (1, vL h0), (3, vI 0)] [] M := by
  have key : ∀ (nn : Nat) (k : Int) (x : Int) (N : Mem), (0 : Int) ≤ k → k ≤ ((reads K).1 44 7) → x = forR 0 k (dg2F (reads K).1) h0 → (Cp N K ∧ Fz M N) → ((reads K).1 44 7) - k < nn → AW G RX5 cX5_digest 4 (some .long) (XM G 6 P) 45 [(0, vR 0), (1, vL x), (3, vI k)] [] N := by
    intro nn
    induction nn with
    | zero => intro k x N hk0 hk1 e_x hN hn; omega
    | succ nn ih =>
      intro k x N hk0 hk1 e_x hN hn
      have e5 := hN.1.2.1.2.1
      have hp := (reads_IR K h.1.1).1
      refine a_iload_n (kX5_digest.at 28 rfl) 2 rfl ?_
      refine a_aload_n (kX5_digest.at 29 rfl) 0 rfl ?_
      refine a_getR (kX5_digest.at 30 rfl) fg_X5_10 ir_0_0 ?_
      refine a_getI (x := N 1 5) (kX5_digest.at 31 rfl) fg_X5_224 ii_1_5 (rfl) ?_
      refine a_icmpge (tgt := 69) (kX5_digest.at 32 rfl) (by decide) (fun h53 => ?_) (fun h53 => ?_)
      · subst e_x
        obtain rfl : k = (reads K).1 44 7 := by omega
        exact kk N hN
      · refine a_aload_n (kX5_digest.at 33 rfl) 0 rfl ?_
        refine a_lload_n (kX5_digest.at 34 rfl) 1 rfl ?_
        refine a_iload_n (kX5_digest.at 35 rfl) 2 rfl ?_
        refine AW.callV (as := [vL x, vI k]) (st := []) (kX5_digest.at 36 rfl) ml_X5_271 sv_X5_digestOfPerson (k := 0) (io_0) rfl rfl ⟨Nat.le_of_ble_eq_true rfl, Nat.le_of_ble_eq_true rfl⟩ ⟨Nat.le_refl _, Nat.le_refl _⟩ rfl rfl (Nat.le_of_ble_eq_true rfl) (k_digP G N K x k hN.1 h (by omega)) (kL fun r N1 hr => ?_)
        obtain ⟨er, c1, f1⟩ := hr; rw [er]; have hN1 : Cp N1 K ∧ Fz M N1 := ⟨c1, hN.2.trans f1⟩
        refine a_lstore_n (ls' := [(0, vR 0), (1, vL (tpS (reads K).1 k x)), (3, vI k)]) (kX5_digest.at 37 rfl) (by decide) rfl ?_
        refine a_iinc (ls' := [(0, vR 0), (1, vL (tpS (reads K).1 k x)), (3, vI (k + 1))]) (kX5_digest.at 38 rfl) 2 rfl (by decide) (inr (by omega)) rfl ?_
        refine a_goto (tgt := 45) (kX5_digest.at 39 rfl) (by decide) ?_
        exact ih ((k + 1)) ((tpS (reads K).1 k x)) (N1) (by omega) (by omega) (by rw [forR_succ hk0, ← e_x] <;> (clear ih kk e_x; rfl)) (hN1) (by omega)
  exact key (((reads K).1 44 7) - (0) + 1 : Int).toNat (0) h0 M (Int.le_refl _) hlohi (forR_nil (Int.le_refl _)).symm (⟨hC, fun _ _ _ => rfl⟩) (by omega)
set_option maxHeartbeats 4000000 in
set_option maxRecDepth 100000 in
theorem l_kd3 (G : GT) (M K : Mem) (h0 : Int) (P : Option AV → Mem → Prop) (hC : Cp M K) (h : MB K) (hlohi : (0 : Int) ≤ 16) (kk : AW G RX5 cX5_digest 4 (some .long) (XM G 6 P) 111 [(0, vR 0), (1, vL (forR 0 16 (dg3F (find K)) h0)), (3, vI 16)] [] M) : AW G RX5 cX5_digest 4 (some .long) (XM G 6 P) 71 [(0, vR 0), (1, vL h0), (3, vI 0)] [] M := by
  have key : ∀ (nn : Nat) (q : Int) (x : Int), (0 : Int) ≤ q → q ≤ 16 → x = forR 0 q (dg3F (find K)) h0 → 16 - q < nn → AW G RX5 cX5_digest 4 (some .long) (XM G 6 P) 71 [(0, vR 0), (1, vL x), (3, vI q)] [] M := by
    intro nn
    induction nn with
    | zero => intro q x hk0 hk1 e_x  hn; omega
    | succ nn ih =>
      intro q x hk0 hk1 e_x  hn
      refine a_iload_n (kX5_digest.at 42 rfl) 2 rfl ?_
      refine a_bipush (kX5_digest.at 43 rfl) rfl rfl ?_
      refine a_icmpge (tgt := 111) (kX5_digest.at 44 rfl) (by decide) (fun h74 => ?_) (fun h74 => ?_)
      · subst e_x
        obtain rfl : q = 16 := by omega
        exact kk 
      · refine a_ldc2 (kX5_digest.at 45 rfl) cl_X5_263 (31) rfl ⟨by decide, by decide⟩ ?_
        refine a_lload_n (kX5_digest.at 46 rfl) 1 rfl ?_
        refine a_lmul (kX5_digest.at 47 rfl) ?_
        refine a_aload_n (kX5_digest.at 48 rfl) 0 rfl ?_
        refine a_iload_n (kX5_digest.at 49 rfl) 2 rfl ?_
        refine a_iconst (kX5_digest.at 50 rfl) rfl ?_
        refine AW.callV (as := [vI q, vI 0]) (st := [vL (wL (31 * x))]) (kX5_digest.at 51 rfl) ml_X5_274 sv_X5_pairs (k := 0) (io_0) rfl rfl ⟨Nat.le_of_ble_eq_true rfl, Nat.le_of_ble_eq_true rfl⟩ ⟨Nat.le_refl _, Nat.le_refl _⟩ rfl rfl (Nat.le_of_ble_eq_true rfl) ((k_pairs G M K q 0 hC h).val (if_pos (by omega))) (kIE ?_)
        refine a_i2l (kX5_digest.at 52 rfl) ?_
        refine a_ladd (kX5_digest.at 53 rfl) ?_
        refine a_lstore_n (ls' := [(0, vR 0), (1, vL (wL ((wL (31 * x)) + (pairsOf (find K) q 0)))), (3, vI q)]) (kX5_digest.at 54 rfl) (by decide) rfl ?_
        refine a_ldc2 (kX5_digest.at 55 rfl) cl_X5_263 (31) rfl ⟨by decide, by decide⟩ ?_
        refine a_lload_n (kX5_digest.at 56 rfl) 1 rfl ?_
        refine a_lmul (kX5_digest.at 57 rfl) ?_
        refine a_aload_n (kX5_digest.at 58 rfl) 0 rfl ?_
        refine a_iload_n (kX5_digest.at 59 rfl) 2 rfl ?_
        refine a_iconst (kX5_digest.at 60 rfl) rfl ?_
        refine AW.callV (as := [vI q, vI 1]) (st := [vL (wL (31 * (wL ((wL (31 * x)) + (pairsOf (find K) q 0)))))]) (kX5_digest.at 61 rfl) ml_X5_274 sv_X5_pairs (k := 0) (io_0) rfl rfl ⟨Nat.le_of_ble_eq_true rfl, Nat.le_of_ble_eq_true rfl⟩ ⟨Nat.le_refl _, Nat.le_refl _⟩ rfl rfl (Nat.le_of_ble_eq_true rfl) ((k_pairs G M K q 1 hC h).val (if_pos (by omega))) (kIE ?_)
        refine a_i2l (kX5_digest.at 62 rfl) ?_
        refine a_ladd (kX5_digest.at 63 rfl) ?_
        refine a_lstore_n (ls' := [(0, vR 0), (1, vL (wL ((wL (31 * (wL ((wL (31 * x)) + (pairsOf (find K) q 0))))) + (pairsOf (find K) q 1)))), (3, vI q)]) (kX5_digest.at 64 rfl) (by decide) rfl ?_
        refine a_iinc (ls' := [(0, vR 0), (1, vL (wL ((wL (31 * (wL ((wL (31 * x)) + (pairsOf (find K) q 0))))) + (pairsOf (find K) q 1)))), (3, vI (q + 1))]) (kX5_digest.at 65 rfl) 2 rfl (by decide) (inr (by omega)) rfl ?_
        refine a_goto (tgt := 71) (kX5_digest.at 66 rfl) (by decide) ?_
        exact ih ((q + 1)) ((wL ((wL (31 * (wL ((wL (31 * x)) + (pairsOf (find K) q 0))))) + (pairsOf (find K) q 1)))) (by omega) (by omega) (by rw [forR_succ hk0, ← e_x] <;> (clear ih kk e_x; rfl)) (by omega)
  exact key ((16) - (0) + 1 : Int).toNat (0) h0 (Int.le_refl _) hlohi (forR_nil (Int.le_refl _)).symm  (by omega)
set_option maxHeartbeats 4000000 in
set_option maxRecDepth 100000 in
theorem l_kd4 (G : GT) (M K : Mem) (h0 : Int) (P : Option AV → Mem → Prop) (hC : Cp M K) (h : MB K) (hlohi : (0 : Int) ≤ 10) (kk : AW G RX5 cX5_digest 4 (some .long) (XM G 6 P) 155 [(0, vR 0), (1, vL (forR 0 10 (dg4F (find K)) h0)), (3, vI 10)] [] M) : AW G RX5 cX5_digest 4 (some .long) (XM G 6 P) 113 [(0, vR 0), (1, vL h0), (3, vI 0)] [] M := by
  have key : ∀ (nn : Nat) (q : Int) (x : Int), (0 : Int) ≤ q → q ≤ 10 → x = forR 0 q (dg4F (find K)) h0 → 10 - q < nn → AW G RX5 cX5_digest 4 (some .long) (XM G 6 P) 113 [(0, vR 0), (1, vL x), (3, vI q)] [] M := by
    intro nn
    induction nn with
    | zero => intro q x hk0 hk1 e_x  hn; omega
    | succ nn ih =>
      intro q x hk0 hk1 e_x  hn
      refine a_iload_n (kX5_digest.at 69 rfl) 2 rfl ?_
      refine a_bipush (kX5_digest.at 70 rfl) rfl rfl ?_
      refine a_icmpge (tgt := 155) (kX5_digest.at 71 rfl) (by decide) (fun h116 => ?_) (fun h116 => ?_)
      · subst e_x
        obtain rfl : q = 10 := by omega
        exact kk 
      · refine a_ldc2 (kX5_digest.at 72 rfl) cl_X5_263 (31) rfl ⟨by decide, by decide⟩ ?_
        refine a_lload_n (kX5_digest.at 73 rfl) 1 rfl ?_
        refine a_lmul (kX5_digest.at 74 rfl) ?_
        refine a_aload_n (kX5_digest.at 75 rfl) 0 rfl ?_
        refine a_bipush (kX5_digest.at 76 rfl) rfl rfl ?_
        refine a_iload_n (kX5_digest.at 77 rfl) 2 rfl ?_
        refine AW.callV (as := [vI 7, vI q]) (st := [vL (wL (31 * x))]) (kX5_digest.at 78 rfl) ml_X5_277 sv_X5_house (k := 0) (io_0) rfl rfl ⟨Nat.le_of_ble_eq_true rfl, Nat.le_of_ble_eq_true rfl⟩ ⟨Nat.le_refl _, Nat.le_refl _⟩ rfl rfl (Nat.le_of_ble_eq_true rfl) ((k_house G M K 7 q hC h).val (if_pos (by omega))) (kIE ?_)
        refine a_i2l (kX5_digest.at 79 rfl) ?_
        refine a_ladd (kX5_digest.at 80 rfl) ?_
        refine a_lstore_n (ls' := [(0, vR 0), (1, vL (wL ((wL (31 * x)) + (houseOf (find K) 7 q)))), (3, vI q)]) (kX5_digest.at 81 rfl) (by decide) rfl ?_
        refine a_ldc2 (kX5_digest.at 82 rfl) cl_X5_263 (31) rfl ⟨by decide, by decide⟩ ?_
        refine a_lload_n (kX5_digest.at 83 rfl) 1 rfl ?_
        refine a_lmul (kX5_digest.at 84 rfl) ?_
        refine a_aload_n (kX5_digest.at 85 rfl) 0 rfl ?_
        refine a_bipush (kX5_digest.at 86 rfl) rfl rfl ?_
        refine a_iload_n (kX5_digest.at 87 rfl) 2 rfl ?_
        refine AW.callV (as := [vI 15, vI q]) (st := [vL (wL (31 * (wL ((wL (31 * x)) + (houseOf (find K) 7 q)))))]) (kX5_digest.at 88 rfl) ml_X5_277 sv_X5_house (k := 0) (io_0) rfl rfl ⟨Nat.le_of_ble_eq_true rfl, Nat.le_of_ble_eq_true rfl⟩ ⟨Nat.le_refl _, Nat.le_refl _⟩ rfl rfl (Nat.le_of_ble_eq_true rfl) ((k_house G M K 15 q hC h).val (if_pos (by omega))) (kIE ?_)
        refine a_i2l (kX5_digest.at 89 rfl) ?_
        refine a_ladd (kX5_digest.at 90 rfl) ?_
        refine a_lstore_n (ls' := [(0, vR 0), (1, vL (wL ((wL (31 * (wL ((wL (31 * x)) + (houseOf (find K) 7 q))))) + (houseOf (find K) 15 q)))), (3, vI q)]) (kX5_digest.at 91 rfl) (by decide) rfl ?_
        refine a_iinc (ls' := [(0, vR 0), (1, vL (wL ((wL (31 * (wL ((wL (31 * x)) + (houseOf (find K) 7 q))))) + (houseOf (find K) 15 q)))), (3, vI (q + 1))]) (kX5_digest.at 92 rfl) 2 rfl (by decide) (inr (by omega)) rfl ?_
        refine a_goto (tgt := 113) (kX5_digest.at 93 rfl) (by decide) ?_
        exact ih ((q + 1)) ((wL ((wL (31 * (wL ((wL (31 * x)) + (houseOf (find K) 7 q))))) + (houseOf (find K) 15 q)))) (by omega) (by omega) (by rw [forR_succ hk0, ← e_x] <;> (clear ih kk e_x; rfl)) (by omega)
  exact key ((10) - (0) + 1 : Int).toNat (0) h0 (Int.le_refl _) hlohi (forR_nil (Int.le_refl _)).symm  (by omega)
noncomputable def dgK (K : Mem) (x : Int) : Int := ds (ds (ds (ds (ds (ds (ds x (o_rest K 0)) (o_rest K 1)) (o_spare K (-1))) (o_spare K 0)) (neverS (find K))) (o_decades K 7 6 0)) (o_decades K 7 6 1)
theorem dgK_eq {K : Mem} (h : MB K) (x : Int) : dgK K x = dg5 (reads K).1 x := by
  have a1 : o_rest K 0 = restS (reads K).1 0 := (if_pos (by omega)).trans (rest_eq h)
  have a2 : o_rest K 1 = restS (reads K).1 1 := (if_pos (by omega)).trans (rest_eq h)
  have a3 : o_spare K (-1) = spareS (reads K).1 (-1) := (if_pos (by omega)).trans (spareS_E (rf_InE K) (reads_BI h).1 _)
  have a4 : o_spare K 0 = spareS (reads K).1 0 := (if_pos (by omega)).trans (spareS_E (rf_InE K) (reads_BI h).1 _)
  have a5 : o_decades K 7 6 0 = decadesS (reads K).1 7 6 0 := (if_pos (by omega)).trans (decadesS_E (rf_InE K) (reads_BI h).1 _ _ _ (by omega))
  have a6 : o_decades K 7 6 1 = decadesS (reads K).1 7 6 1 := (if_pos (by omega)).trans (decadesS_E (rf_InE K) (reads_BI h).1 _ _ _ (by omega))
  unfold dgK dg5
  rw [a1, a2, a3, a4, never_eq h, a5, a6]
set_option maxHeartbeats 4000000 in
theorem x_kd (G : GT) (M K : Mem) (x : Int) (P : Int → Mem → Prop) (hC : Cp M K) (h : MB K) (hP : ∀ N, Cp N K → Fz M N → P (dg5 (reads K).1 (ds (ds (forR 0 10 (dg4F (find K)) (forR 0 16 (dg3F (find K)) x)) (find K 44 26)) (find K 44 27))) N) : AW G RX5 cX5_digest 4 (some .long) (XM G 6 (pL P)) 71 [(0, vR 0), (1, vL x), (3, vI 0)] [] M := by
  refine l_kd3 G M K x _ hC h (by omega) ?_
  show AW _ _ _ _ _ _ 111 [(0, vR 0), (1, vL (forR 0 16 (dg3F (find K)) x)), (3, vI 16)] [] M
  refine a_iconst (kX5_digest.at 67 rfl) rfl ?_
  refine a_istore_n (ls' := [(0, vR 0), (1, vL (forR 0 16 (dg3F (find K)) x)), (3, vI 0)]) (kX5_digest.at 68 rfl) (by decide) rfl ?_
  refine l_kd4 G M K _ _ hC h (by omega) ?_
  show AW _ _ _ _ _ _ 155 [(0, vR 0), (1, vL (forR 0 10 (dg4F (find K)) (forR 0 16 (dg3F (find K)) x))), (3, vI 10)] [] M
  refine a_ldc2 (kX5_digest.at 94 rfl) cl_X5_263 (31) rfl ⟨by decide, by decide⟩ ?_
  refine a_lload_n (kX5_digest.at 95 rfl) 1 rfl ?_
  refine a_lmul (kX5_digest.at 96 rfl) ?_
  refine a_aload_n (kX5_digest.at 97 rfl) 0 rfl ?_
  refine a_iconst (kX5_digest.at 98 rfl) rfl ?_
  refine AW.callV (as := [vI 0]) (st := [vL (wL (31 * (forR 0 10 (dg4F (find K)) (forR 0 16 (dg3F (find K)) x))))]) (kX5_digest.at 99 rfl) ml_X5_280 sv_X5_first (k := 0) (io_0) rfl rfl ⟨Nat.le_of_ble_eq_true rfl, Nat.le_of_ble_eq_true rfl⟩ ⟨Nat.le_refl _, Nat.le_refl _⟩ rfl rfl (Nat.le_of_ble_eq_true rfl) ((k_first G M K 0 hC).val ((if_pos (by omega)).trans (if_pos rfl))) (kIE ?_)
  refine a_i2l (kX5_digest.at 100 rfl) ?_
  refine a_ladd (kX5_digest.at 101 rfl) ?_
  refine a_lstore_n (ls' := [(0, vR 0), (1, vL (wL ((wL (31 * (forR 0 10 (dg4F (find K)) (forR 0 16 (dg3F (find K)) x)))) + (find K 44 26)))), (3, vI 10)]) (kX5_digest.at 102 rfl) (by decide) rfl ?_
  refine a_ldc2 (kX5_digest.at 103 rfl) cl_X5_263 (31) rfl ⟨by decide, by decide⟩ ?_
  refine a_lload_n (kX5_digest.at 104 rfl) 1 rfl ?_
  refine a_lmul (kX5_digest.at 105 rfl) ?_
  refine a_aload_n (kX5_digest.at 106 rfl) 0 rfl ?_
  refine a_iconst (kX5_digest.at 107 rfl) rfl ?_
  refine AW.callV (as := [vI 1]) (st := [vL (wL (31 * (wL ((wL (31 * (forR 0 10 (dg4F (find K)) (forR 0 16 (dg3F (find K)) x)))) + (find K 44 26)))))]) (kX5_digest.at 108 rfl) ml_X5_280 sv_X5_first (k := 0) (io_0) rfl rfl ⟨Nat.le_of_ble_eq_true rfl, Nat.le_of_ble_eq_true rfl⟩ ⟨Nat.le_refl _, Nat.le_refl _⟩ rfl rfl (Nat.le_of_ble_eq_true rfl) ((k_first G M K 1 hC).val ((if_pos (by omega)).trans (if_neg (by omega)))) (kIE ?_)
  refine a_i2l (kX5_digest.at 109 rfl) ?_
  refine a_ladd (kX5_digest.at 110 rfl) ?_
  refine a_lstore_n (ls' := [(0, vR 0), (1, vL (wL ((wL (31 * (wL ((wL (31 * (forR 0 10 (dg4F (find K)) (forR 0 16 (dg3F (find K)) x)))) + (find K 44 26))))) + (find K 44 27)))), (3, vI 10)]) (kX5_digest.at 111 rfl) (by decide) rfl ?_
  refine a_ldc2 (kX5_digest.at 112 rfl) cl_X5_263 (31) rfl ⟨by decide, by decide⟩ ?_
  refine a_lload_n (kX5_digest.at 113 rfl) 1 rfl ?_
  refine a_lmul (kX5_digest.at 114 rfl) ?_
  refine a_aload_n (kX5_digest.at 115 rfl) 0 rfl ?_
  refine a_iconst (kX5_digest.at 116 rfl) rfl ?_
  refine AW.callV (as := [vI 0]) (st := [vL (wL (31 * (wL ((wL (31 * (wL ((wL (31 * (forR 0 10 (dg4F (find K)) (forR 0 16 (dg3F (find K)) x)))) + (find K 44 26))))) + (find K 44 27)))))]) (kX5_digest.at 117 rfl) ml_X5_283 sv_X5_rest (k := 0) (io_0) rfl rfl ⟨Nat.le_of_ble_eq_true rfl, Nat.le_of_ble_eq_true rfl⟩ ⟨Nat.le_refl _, Nat.le_refl _⟩ rfl rfl (Nat.le_of_ble_eq_true rfl) (k_rest G M K 0 hC h) (kI fun r N1 hr => ?_)
  obtain ⟨er, f1⟩ := hr; rw [er]; have hC1 := hC.y h f1
  refine a_i2l (kX5_digest.at 118 rfl) ?_
  refine a_ladd (kX5_digest.at 119 rfl) ?_
  refine a_lstore_n (ls' := [(0, vR 0), (1, vL (wL ((wL (31 * (wL ((wL (31 * (wL ((wL (31 * (forR 0 10 (dg4F (find K)) (forR 0 16 (dg3F (find K)) x)))) + (find K 44 26))))) + (find K 44 27))))) + (o_rest K 0)))), (3, vI 10)]) (kX5_digest.at 120 rfl) (by decide) rfl ?_
  refine a_ldc2 (kX5_digest.at 121 rfl) cl_X5_263 (31) rfl ⟨by decide, by decide⟩ ?_
  refine a_lload_n (kX5_digest.at 122 rfl) 1 rfl ?_
  refine a_lmul (kX5_digest.at 123 rfl) ?_
  refine a_aload_n (kX5_digest.at 124 rfl) 0 rfl ?_
  refine a_iconst (kX5_digest.at 125 rfl) rfl ?_
  refine AW.callV (as := [vI 1]) (st := [vL (wL (31 * (wL ((wL (31 * (wL ((wL (31 * (wL ((wL (31 * (forR 0 10 (dg4F (find K)) (forR 0 16 (dg3F (find K)) x)))) + (find K 44 26))))) + (find K 44 27))))) + (o_rest K 0)))))]) (kX5_digest.at 126 rfl) ml_X5_283 sv_X5_rest (k := 0) (io_0) rfl rfl ⟨Nat.le_of_ble_eq_true rfl, Nat.le_of_ble_eq_true rfl⟩ ⟨Nat.le_refl _, Nat.le_refl _⟩ rfl rfl (Nat.le_of_ble_eq_true rfl) (k_rest G N1 K 1 hC1 h) (kI fun r N2 hr => ?_)
  obtain ⟨er, f2⟩ := hr; rw [er]; have hC2 := hC1.y h f2
  refine a_i2l (kX5_digest.at 127 rfl) ?_
  refine a_ladd (kX5_digest.at 128 rfl) ?_
  refine a_lstore_n (ls' := [(0, vR 0), (1, vL (wL ((wL (31 * (wL ((wL (31 * (wL ((wL (31 * (wL ((wL (31 * (forR 0 10 (dg4F (find K)) (forR 0 16 (dg3F (find K)) x)))) + (find K 44 26))))) + (find K 44 27))))) + (o_rest K 0))))) + (o_rest K 1)))), (3, vI 10)]) (kX5_digest.at 129 rfl) (by decide) rfl ?_
  refine a_ldc2 (kX5_digest.at 130 rfl) cl_X5_263 (31) rfl ⟨by decide, by decide⟩ ?_
  refine a_lload_n (kX5_digest.at 131 rfl) 1 rfl ?_
  refine a_lmul (kX5_digest.at 132 rfl) ?_
  refine a_aload_n (kX5_digest.at 133 rfl) 0 rfl ?_
  refine a_iconst (kX5_digest.at 134 rfl) rfl ?_
  refine AW.callV (as := [vI (-1)]) (st := [vL (wL (31 * (wL ((wL (31 * (wL ((wL (31 * (wL ((wL (31 * (wL ((wL (31 * (forR 0 10 (dg4F (find K)) (forR 0 16 (dg3F (find K)) x)))) + (find K 44 26))))) + (find K 44 27))))) + (o_rest K 0))))) + (o_rest K 1)))))]) (kX5_digest.at 135 rfl) ml_X5_286 sv_X5_spare (k := 0) (io_0) rfl rfl ⟨Nat.le_of_ble_eq_true rfl, Nat.le_of_ble_eq_true rfl⟩ ⟨Nat.le_refl _, Nat.le_refl _⟩ rfl rfl (Nat.le_of_ble_eq_true rfl) (k_spare G N2 K (-1) hC2 h) (kI fun r N3 hr => ?_)
  obtain ⟨er, f3⟩ := hr; rw [er]; have hC3 := hC2.y h f3
  refine a_i2l (kX5_digest.at 136 rfl) ?_
  refine a_ladd (kX5_digest.at 137 rfl) ?_
  refine a_lstore_n (ls' := [(0, vR 0), (1, vL (wL ((wL (31 * (wL ((wL (31 * (wL ((wL (31 * (wL ((wL (31 * (wL ((wL (31 * (forR 0 10 (dg4F (find K)) (forR 0 16 (dg3F (find K)) x)))) + (find K 44 26))))) + (find K 44 27))))) + (o_rest K 0))))) + (o_rest K 1))))) + (o_spare K (-1))))), (3, vI 10)]) (kX5_digest.at 138 rfl) (by decide) rfl ?_
  refine a_ldc2 (kX5_digest.at 139 rfl) cl_X5_263 (31) rfl ⟨by decide, by decide⟩ ?_
  refine a_lload_n (kX5_digest.at 140 rfl) 1 rfl ?_
  refine a_lmul (kX5_digest.at 141 rfl) ?_
  refine a_aload_n (kX5_digest.at 142 rfl) 0 rfl ?_
  refine a_iconst (kX5_digest.at 143 rfl) rfl ?_
  refine AW.callV (as := [vI 0]) (st := [vL (wL (31 * (wL ((wL (31 * (wL ((wL (31 * (wL ((wL (31 * (wL ((wL (31 * (wL ((wL (31 * (forR 0 10 (dg4F (find K)) (forR 0 16 (dg3F (find K)) x)))) + (find K 44 26))))) + (find K 44 27))))) + (o_rest K 0))))) + (o_rest K 1))))) + (o_spare K (-1))))))]) (kX5_digest.at 144 rfl) ml_X5_286 sv_X5_spare (k := 0) (io_0) rfl rfl ⟨Nat.le_of_ble_eq_true rfl, Nat.le_of_ble_eq_true rfl⟩ ⟨Nat.le_refl _, Nat.le_refl _⟩ rfl rfl (Nat.le_of_ble_eq_true rfl) (k_spare G N3 K 0 hC3 h) (kI fun r N4 hr => ?_)
  obtain ⟨er, f4⟩ := hr; rw [er]; have hC4 := hC3.y h f4
  refine a_i2l (kX5_digest.at 145 rfl) ?_
  refine a_ladd (kX5_digest.at 146 rfl) ?_
  refine a_lstore_n (ls' := [(0, vR 0), (1, vL (wL ((wL (31 * (wL ((wL (31 * (wL ((wL (31 * (wL ((wL (31 * (wL ((wL (31 * (wL ((wL (31 * (forR 0 10 (dg4F (find K)) (forR 0 16 (dg3F (find K)) x)))) + (find K 44 26))))) + (find K 44 27))))) + (o_rest K 0))))) + (o_rest K 1))))) + (o_spare K (-1)))))) + (o_spare K 0)))), (3, vI 10)]) (kX5_digest.at 147 rfl) (by decide) rfl ?_
  refine a_ldc2 (kX5_digest.at 148 rfl) cl_X5_263 (31) rfl ⟨by decide, by decide⟩ ?_
  refine a_lload_n (kX5_digest.at 149 rfl) 1 rfl ?_
  refine a_lmul (kX5_digest.at 150 rfl) ?_
  refine a_aload_n (kX5_digest.at 151 rfl) 0 rfl ?_
  refine AW.callV (as := []) (st := [vL (wL (31 * (wL ((wL (31 * (wL ((wL (31 * (wL ((wL (31 * (wL ((wL (31 * (wL ((wL (31 * (wL ((wL (31 * (forR 0 10 (dg4F (find K)) (forR 0 16 (dg3F (find K)) x)))) + (find K 44 26))))) + (find K 44 27))))) + (o_rest K 0))))) + (o_rest K 1))))) + (o_spare K (-1)))))) + (o_spare K 0)))))]) (kX5_digest.at 152 rfl) ml_X5_289 sv_X5_never (k := 0) (io_0) rfl rfl ⟨Nat.le_of_ble_eq_true rfl, Nat.le_of_ble_eq_true rfl⟩ ⟨Nat.le_refl _, Nat.le_refl _⟩ rfl rfl (Nat.le_of_ble_eq_true rfl) (k_never G N4 K hC4 h) (kI fun r N5 hr => ?_)
  obtain ⟨er, f5⟩ := hr; rw [er]; have hC5 := hC4.y h f5
  refine a_i2l (kX5_digest.at 153 rfl) ?_
  refine a_ladd (kX5_digest.at 154 rfl) ?_
  refine a_lstore_n (ls' := [(0, vR 0), (1, vL (wL ((wL (31 * (wL ((wL (31 * (wL ((wL (31 * (wL ((wL (31 * (wL ((wL (31 * (wL ((wL (31 * (wL ((wL (31 * (forR 0 10 (dg4F (find K)) (forR 0 16 (dg3F (find K)) x)))) + (find K 44 26))))) + (find K 44 27))))) + (o_rest K 0))))) + (o_rest K 1))))) + (o_spare K (-1)))))) + (o_spare K 0))))) + (neverS (find K))))), (3, vI 10)]) (kX5_digest.at 155 rfl) (by decide) rfl ?_
  refine a_ldc2 (kX5_digest.at 156 rfl) cl_X5_263 (31) rfl ⟨by decide, by decide⟩ ?_
  refine a_lload_n (kX5_digest.at 157 rfl) 1 rfl ?_
  refine a_lmul (kX5_digest.at 158 rfl) ?_
  refine a_aload_n (kX5_digest.at 159 rfl) 0 rfl ?_
  refine a_bipush (kX5_digest.at 160 rfl) rfl rfl ?_
  refine a_bipush (kX5_digest.at 161 rfl) rfl rfl ?_
  refine a_iconst (kX5_digest.at 162 rfl) rfl ?_
  refine AW.callV (as := [vI 7, vI 6, vI 0]) (st := [vL (wL (31 * (wL ((wL (31 * (wL ((wL (31 * (wL ((wL (31 * (wL ((wL (31 * (wL ((wL (31 * (wL ((wL (31 * (wL ((wL (31 * (forR 0 10 (dg4F (find K)) (forR 0 16 (dg3F (find K)) x)))) + (find K 44 26))))) + (find K 44 27))))) + (o_rest K 0))))) + (o_rest K 1))))) + (o_spare K (-1)))))) + (o_spare K 0))))) + (neverS (find K))))))]) (kX5_digest.at 163 rfl) ml_X5_292 sv_X5_decades (k := 0) (io_0) rfl rfl ⟨Nat.le_of_ble_eq_true rfl, Nat.le_of_ble_eq_true rfl⟩ ⟨Nat.le_refl _, Nat.le_refl _⟩ rfl rfl (Nat.le_of_ble_eq_true rfl) (k_decades G N5 K 7 6 0 hC5 h) (kI fun r N6 hr => ?_)
  obtain ⟨er, f6⟩ := hr; rw [er]; have hC6 := hC5.y h f6
  refine a_i2l (kX5_digest.at 164 rfl) ?_
  refine a_ladd (kX5_digest.at 165 rfl) ?_
  refine a_lstore_n (ls' := [(0, vR 0), (1, vL (wL ((wL (31 * (wL ((wL (31 * (wL ((wL (31 * (wL ((wL (31 * (wL ((wL (31 * (wL ((wL (31 * (wL ((wL (31 * (wL ((wL (31 * (forR 0 10 (dg4F (find K)) (forR 0 16 (dg3F (find K)) x)))) + (find K 44 26))))) + (find K 44 27))))) + (o_rest K 0))))) + (o_rest K 1))))) + (o_spare K (-1)))))) + (o_spare K 0))))) + (neverS (find K)))))) + (o_decades K 7 6 0)))), (3, vI 10)]) (kX5_digest.at 166 rfl) (by decide) rfl ?_
  refine a_ldc2 (kX5_digest.at 167 rfl) cl_X5_263 (31) rfl ⟨by decide, by decide⟩ ?_
  refine a_lload_n (kX5_digest.at 168 rfl) 1 rfl ?_
  refine a_lmul (kX5_digest.at 169 rfl) ?_
  refine a_aload_n (kX5_digest.at 170 rfl) 0 rfl ?_
  refine a_bipush (kX5_digest.at 171 rfl) rfl rfl ?_
  refine a_bipush (kX5_digest.at 172 rfl) rfl rfl ?_
  refine a_iconst (kX5_digest.at 173 rfl) rfl ?_
  refine AW.callV (as := [vI 7, vI 6, vI 1]) (st := [vL (wL (31 * (wL ((wL (31 * (wL ((wL (31 * (wL ((wL (31 * (wL ((wL (31 * (wL ((wL (31 * (wL ((wL (31 * (wL ((wL (31 * (wL ((wL (31 * (forR 0 10 (dg4F (find K)) (forR 0 16 (dg3F (find K)) x)))) + (find K 44 26))))) + (find K 44 27))))) + (o_rest K 0))))) + (o_rest K 1))))) + (o_spare K (-1)))))) + (o_spare K 0))))) + (neverS (find K)))))) + (o_decades K 7 6 0)))))]) (kX5_digest.at 174 rfl) ml_X5_292 sv_X5_decades (k := 0) (io_0) rfl rfl ⟨Nat.le_of_ble_eq_true rfl, Nat.le_of_ble_eq_true rfl⟩ ⟨Nat.le_refl _, Nat.le_refl _⟩ rfl rfl (Nat.le_of_ble_eq_true rfl) (k_decades G N6 K 7 6 1 hC6 h) (kI fun r N7 hr => ?_)
  obtain ⟨er, f7⟩ := hr; rw [er]; have hC7 := hC6.y h f7
  refine a_i2l (kX5_digest.at 175 rfl) ?_
  refine a_ladd (kX5_digest.at 176 rfl) ?_
  have hfin := hP N7 hC7 ((((((f1.trans f2).trans f3).trans f4).trans f5).trans f6).trans f7).z
  rw [← dgK_eq h] at hfin
  exact a_lret (kX5_digest.at 177 rfl) (hfin)
theorem k_digest (G : GT) (M K : Mem) (hC : Cp M K) (h : MB K) : AM G yX5_digest cX5_digest 4 (some .long) 6 M [vR 0] (pL fun r N => r = digS K ∧ Cp N K ∧ Fz M N) := by
  refine AM.mk (own := RX5) rfl sv_X5_digest.1.2.2.2.2.2 (Nat.le_of_ble_eq_true rfl) rfl ?_
  have hp := (reads_IR K h.1.1).1
  refine a_ldc2 (kX5_digest.at 0 rfl) cl_X5_261 (17) rfl ⟨by decide, by decide⟩ ?_
  refine a_lstore_n (ls' := [(0, vR 0), (1, vL 17)]) (kX5_digest.at 1 rfl) (by decide) rfl ?_
  refine a_iconst (kX5_digest.at 2 rfl) rfl ?_
  refine a_istore_n (ls' := [(0, vR 0), (1, vL 17), (3, vI 0)]) (kX5_digest.at 3 rfl) (by decide) rfl ?_
  refine l_kd1 G M K _ hC h (by omega) ?_
  show AW _ _ _ _ _ _ 31 [(0, vR 0), (1, vL (forR 0 8 (dg1F K) 17)), (3, vI 8)] [] M
  refine a_ldc2 (kX5_digest.at 18 rfl) cl_X5_263 (31) rfl ⟨by decide, by decide⟩ ?_
  refine a_lload_n (kX5_digest.at 19 rfl) 1 rfl ?_
  refine a_lmul (kX5_digest.at 20 rfl) ?_
  refine a_aload_n (kX5_digest.at 21 rfl) 0 rfl ?_
  refine AW.callV (as := []) (st := [vL (wL (31 * (forR 0 8 (dg1F K) 17)))]) (kX5_digest.at 22 rfl) ml_X5_268 sv_X5_fault (k := 0) (io_0) rfl rfl ⟨Nat.le_of_ble_eq_true rfl, Nat.le_of_ble_eq_true rfl⟩ ⟨Nat.le_refl _, Nat.le_refl _⟩ rfl rfl (Nat.le_of_ble_eq_true rfl) (k_fault G M K hC) (kIE ?_)
  refine a_i2l (kX5_digest.at 23 rfl) ?_
  refine a_ladd (kX5_digest.at 24 rfl) ?_
  refine a_lstore_n (ls' := [(0, vR 0), (1, vL (wL ((wL (31 * (forR 0 8 (dg1F K) 17))) + ((reads K).2)))), (3, vI 8)]) (kX5_digest.at 25 rfl) (by decide) rfl ?_
  refine a_iconst (kX5_digest.at 26 rfl) rfl ?_
  refine a_istore_n (ls' := [(0, vR 0), (1, vL (wL ((wL (31 * (forR 0 8 (dg1F K) 17))) + ((reads K).2)))), (3, vI 0)]) (kX5_digest.at 27 rfl) (by decide) rfl ?_
  refine l_kd2 G M K _ _ hC h hp.1 ?_
  intro N1 hN1
  show AW _ _ _ _ _ _ 69 [(0, vR 0), (1, vL (forR 0 ((reads K).1 44 7) (dg2F (reads K).1) (ds (forR 0 8 (dg1F K) 17) (reads K).2))), (3, vI ((reads K).1 44 7))] [] N1
  refine a_iconst (kX5_digest.at 40 rfl) rfl ?_
  refine a_istore_n (ls' := [(0, vR 0), (1, vL (forR 0 ((reads K).1 44 7) (dg2F (reads K).1) (ds (forR 0 8 (dg1F K) 17) (reads K).2))), (3, vI 0)]) (kX5_digest.at 41 rfl) (by decide) rfl ?_
  exact x_kd G N1 K _ _ hN1.1 h (fun N a b => ⟨rfl, a, hN1.2.trans b⟩)
