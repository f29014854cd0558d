/-! ===== the law: its cases ===== -/
set_option maxHeartbeats 4000000 in
theorem lc_type (G : GT) (b L : Nat) (xs : Nat → Int32) (M : Mem) (i : Int) (hL : L ≤ 3072) (h0 : 0 ≤ i) (h1 : i + 6 ≤ L) (hI : Inv M) (kk : ∀ N, Inv N → AW G R_law code 4 ret (XL G b L xs) 1195 [(0, vR 63), (1, vR 0), (2, vR 44), (3, vI i)] [] N) : AW G R_law code 4 ret (XL G b L xs) 188 [(0, vR 63), (1, vR 0), (2, vR 44), (3, vI i)] [] M := by
  refine a_aload_n (kL0.at 22 rfl) 1 rfl ?_
  refine a_aload_n (kL0.at 23 rfl) 0 rfl ?_
  refine a_iload_n (kL0.at 24 rfl) 3 rfl ?_
  refine a_iconst (kL0.at 25 rfl) rfl ?_
  refine a_iadd (kL0.at 26 rfl) (inr (by omega)) ?_
  refine a_sld (kL0.at 27 rfl) (by omega) ?_
  refine AW.callV (as := [vI (sc xs (i + 1))]) (st := []) (kL0.at 28 rfl) ml_L_13 sv_X5_type (k := 0) (io_0) rfl rfl ⟨Nat.le_of_ble_eq_true rfl, Nat.le_of_ble_eq_true rfl⟩ ⟨Nat.le_refl _, Nat.le_refl _⟩ rfl rfl (Nat.le_of_ble_eq_true rfl) (a_ktype G M (sc xs (i + 1)) hI) (kI fun r N1 hr => ?_)
  obtain ⟨er, c1, f1⟩ := hr; rw [er]
  refine a_aload_n (kL0.at 29 rfl) 2 rfl ?_
  refine a_aload_n (kL0.at 30 rfl) 0 rfl ?_
  refine a_iload_n (kL0.at 31 rfl) 3 rfl ?_
  refine a_iconst (kL0.at 32 rfl) rfl ?_
  refine a_iadd (kL0.at 33 rfl) (inr (by omega)) ?_
  refine a_sld (kL0.at 34 rfl) (by omega) ?_
  refine AW.callV (as := [vI (sc xs (i + 1))]) (st := [vI ((o_type M (sc xs (i + 1))).1)]) (kL0.at 35 rfl) ml_L_17 sv_X6_type (k := 44) (io_44) rfl rfl ⟨Nat.le_of_ble_eq_true rfl, Nat.le_of_ble_eq_true rfl⟩ ⟨Nat.le_refl _, Nat.le_refl _⟩ rfl rfl (Nat.le_of_ble_eq_true rfl) (a_ctype G M N1 (sc xs (i + 1)) hI c1 f1) (kI fun r N2 hr => ?_)
  obtain ⟨er, hI2⟩ := hr; rw [er]
  refine a_icmpeq (tgt := 1195) (kL0.at 36 rfl) (by decide) (fun h206 => ?_) (fun h206 => ?_)
  · exact kk N2 hI2
  · exact absurd rfl h206
set_option maxHeartbeats 4000000 in
theorem lc_wipe (G : GT) (b L : Nat) (xs : Nat → Int32) (M : Mem) (i : Int) (hL : L ≤ 3072) (h0 : 0 ≤ i) (h1 : i + 6 ≤ L) (hI : Inv M) (kk : ∀ N, Inv N → AW G R_law code 4 ret (XL G b L xs) 1195 [(0, vR 63), (1, vR 0), (2, vR 44), (3, vI i)] [] N) : AW G R_law code 4 ret (XL G b L xs) 211 [(0, vR 63), (1, vR 0), (2, vR 44), (3, vI i)] [] M := by
  refine a_aload_n (kL0.at 39 rfl) 1 rfl ?_
  refine AW.callV (as := []) (st := []) (kL0.at 40 rfl) ml_L_18 sv_X5_wipe (k := 0) (io_0) rfl rfl ⟨Nat.le_of_ble_eq_true rfl, Nat.le_of_ble_eq_true rfl⟩ ⟨Nat.le_refl _, Nat.le_refl _⟩ rfl rfl (Nat.le_of_ble_eq_true rfl) (a_kwipe G M hI) (kI fun r N1 hr => ?_)
  obtain ⟨er, c1, f1⟩ := hr; rw [er]
  refine a_aload_n (kL0.at 41 rfl) 2 rfl ?_
  refine AW.callV (as := []) (st := [vI (M 44 6)]) (kL0.at 42 rfl) ml_L_22 sv_X6_wipe (k := 44) (io_44) rfl rfl ⟨Nat.le_of_ble_eq_true rfl, Nat.le_of_ble_eq_true rfl⟩ ⟨Nat.le_refl _, Nat.le_refl _⟩ rfl rfl (Nat.le_of_ble_eq_true rfl) (a_cwipe G M N1 hI c1 f1) (kI fun r N2 hr => ?_)
  obtain ⟨er, hI2⟩ := hr; rw [er]
  refine a_icmpeq (tgt := 1195) (kL0.at 43 rfl) (by decide) (fun h219 => ?_) (fun h219 => ?_)
  · exact kk N2 hI2
  · exact absurd rfl h219
set_option maxHeartbeats 4000000 in
theorem lc_undo (G : GT) (b L : Nat) (xs : Nat → Int32) (M : Mem) (i : Int) (hL : L ≤ 3072) (h0 : 0 ≤ i) (h1 : i + 6 ≤ L) (hI : Inv M) (kk : ∀ N, Inv N → AW G R_law code 4 ret (XL G b L xs) 1195 [(0, vR 63), (1, vR 0), (2, vR 44), (3, vI i)] [] N) : AW G R_law code 4 ret (XL G b L xs) 224 [(0, vR 63), (1, vR 0), (2, vR 44), (3, vI i)] [] M := by
  refine a_aload_n (kL0.at 46 rfl) 1 rfl ?_
  refine AW.callV (as := []) (st := []) (kL0.at 47 rfl) ml_L_23 sv_X5_undo (k := 0) (io_0) rfl rfl ⟨Nat.le_of_ble_eq_true rfl, Nat.le_of_ble_eq_true rfl⟩ ⟨Nat.le_refl _, Nat.le_refl _⟩ rfl rfl (Nat.le_of_ble_eq_true rfl) (a_kundo G M hI) (kI fun r N1 hr => ?_)
  obtain ⟨er, c1, f1⟩ := hr; rw [er]
  refine a_aload_n (kL0.at 48 rfl) 2 rfl ?_
  refine AW.callV (as := []) (st := [vI ((o_undo M).1)]) (kL0.at 49 rfl) ml_L_26 sv_X6_undo (k := 44) (io_44) rfl rfl ⟨Nat.le_of_ble_eq_true rfl, Nat.le_of_ble_eq_true rfl⟩ ⟨Nat.le_refl _, Nat.le_refl _⟩ rfl rfl (Nat.le_of_ble_eq_true rfl) (a_cundo G M N1 hI c1 f1) (kI fun r N2 hr => ?_)
  obtain ⟨er, hI2⟩ := hr; rw [er]
  refine a_icmpeq (tgt := 1195) (kL0.at 50 rfl) (by decide) (fun h232 => ?_) (fun h232 => ?_)
  · exact kk N2 hI2
  · exact absurd rfl h232
set_option maxHeartbeats 4000000 in
theorem lc_fault (G : GT) (b L : Nat) (xs : Nat → Int32) (M : Mem) (i : Int) (hL : L ≤ 3072) (h0 : 0 ≤ i) (h1 : i + 6 ≤ L) (hI : Inv M) (kk : ∀ N, Inv N → AW G R_law code 4 ret (XL G b L xs) 1195 [(0, vR 63), (1, vR 0), (2, vR 44), (3, vI i)] [] N) : AW G R_law code 4 ret (XL G b L xs) 237 [(0, vR 63), (1, vR 0), (2, vR 44), (3, vI i)] [] M := by
  refine a_aload_n (kL0.at 53 rfl) 1 rfl ?_
  refine AW.callV (as := []) (st := []) (kL0.at 54 rfl) ml_L_27 sv_X5_fault (k := 0) (io_0) rfl rfl ⟨Nat.le_of_ble_eq_true rfl, Nat.le_of_ble_eq_true rfl⟩ ⟨Nat.le_refl _, Nat.le_refl _⟩ rfl rfl (Nat.le_of_ble_eq_true rfl) (a_kfault G M hI) (kI fun r N1 hr => ?_)
  obtain ⟨er, c1, f1⟩ := hr; rw [er]
  refine a_aload_n (kL0.at 55 rfl) 2 rfl ?_
  refine AW.callV (as := []) (st := [vI ((reads M).2)]) (kL0.at 56 rfl) ml_L_30 sv_X6_fault (k := 44) (io_44) rfl rfl ⟨Nat.le_of_ble_eq_true rfl, Nat.le_of_ble_eq_true rfl⟩ ⟨Nat.le_refl _, Nat.le_refl _⟩ rfl rfl (Nat.le_of_ble_eq_true rfl) (a_cfault G M N1 hI c1 f1) (kI fun r N2 hr => ?_)
  obtain ⟨er, hI2⟩ := hr; rw [er]
  refine a_icmpeq (tgt := 1195) (kL0.at 57 rfl) (by decide) (fun h245 => ?_) (fun h245 => ?_)
  · exact kk N2 hI2
  · exact absurd rfl h245
set_option maxHeartbeats 4000000 in
theorem lc_person (G : GT) (b L : Nat) (xs : Nat → Int32) (M : Mem) (i : Int) (hL : L ≤ 3072) (h0 : 0 ≤ i) (h1 : i + 6 ≤ L) (hI : Inv M) (kk : ∀ N, Inv N → AW G R_law code 4 ret (XL G b L xs) 1195 [(0, vR 63), (1, vR 0), (2, vR 44), (3, vI i)] [] N) : AW G R_law code 4 ret (XL G b L xs) 250 [(0, vR 63), (1, vR 0), (2, vR 44), (3, vI i)] [] M := by
  refine a_aload_n (kL1.at 0 rfl) 1 rfl ?_
  refine a_aload_n (kL1.at 1 rfl) 0 rfl ?_
  refine a_iload_n (kL1.at 2 rfl) 3 rfl ?_
  refine a_iconst (kL1.at 3 rfl) rfl ?_
  refine a_iadd (kL1.at 4 rfl) (inr (by omega)) ?_
  refine a_sld (kL1.at 5 rfl) (by omega) ?_
  refine a_aload_n (kL1.at 6 rfl) 0 rfl ?_
  refine a_iload_n (kL1.at 7 rfl) 3 rfl ?_
  refine a_iconst (kL1.at 8 rfl) rfl ?_
  refine a_iadd (kL1.at 9 rfl) (inr (by omega)) ?_
  refine a_sld (kL1.at 10 rfl) (by omega) ?_
  refine AW.callV (as := [vI (sc xs (i + 1)), vI (sc xs (i + 2))]) (st := []) (kL1.at 11 rfl) ml_L_31 sv_X5_person (k := 0) (io_0) rfl rfl ⟨Nat.le_of_ble_eq_true rfl, Nat.le_of_ble_eq_true rfl⟩ ⟨Nat.le_refl _, Nat.le_refl _⟩ rfl rfl (Nat.le_of_ble_eq_true rfl) (a_kperson G M (sc xs (i + 1)) (sc xs (i + 2)) hI) (kI fun r N1 hr => ?_)
  obtain ⟨er, c1, f1⟩ := hr; rw [er]
  refine a_aload_n (kL1.at 12 rfl) 2 rfl ?_
  refine a_aload_n (kL1.at 13 rfl) 0 rfl ?_
  refine a_iload_n (kL1.at 14 rfl) 3 rfl ?_
  refine a_iconst (kL1.at 15 rfl) rfl ?_
  refine a_iadd (kL1.at 16 rfl) (inr (by omega)) ?_
  refine a_sld (kL1.at 17 rfl) (by omega) ?_
  refine a_aload_n (kL1.at 18 rfl) 0 rfl ?_
  refine a_iload_n (kL1.at 19 rfl) 3 rfl ?_
  refine a_iconst (kL1.at 20 rfl) rfl ?_
  refine a_iadd (kL1.at 21 rfl) (inr (by omega)) ?_
  refine a_sld (kL1.at 22 rfl) (by omega) ?_
  refine AW.callV (as := [vI (sc xs (i + 1)), vI (sc xs (i + 2))]) (st := [vI (o_person M (sc xs (i + 1)) (sc xs (i + 2)))]) (kL1.at 23 rfl) ml_L_35 sv_X6_person (k := 44) (io_44) rfl rfl ⟨Nat.le_of_ble_eq_true rfl, Nat.le_of_ble_eq_true rfl⟩ ⟨Nat.le_refl _, Nat.le_refl _⟩ rfl rfl (Nat.le_of_ble_eq_true rfl) (a_cperson G M N1 (sc xs (i + 1)) (sc xs (i + 2)) hI c1 f1) (kI fun r N2 hr => ?_)
  obtain ⟨er, hI2⟩ := hr; rw [er]
  refine a_icmpeq (tgt := 1195) (kL1.at 24 rfl) (by decide) (fun h278 => ?_) (fun h278 => ?_)
  · exact kk N2 hI2
  · exact absurd rfl h278
set_option maxHeartbeats 4000000 in
theorem lc_event (G : GT) (b L : Nat) (xs : Nat → Int32) (M : Mem) (i : Int) (hL : L ≤ 3072) (h0 : 0 ≤ i) (h1 : i + 6 ≤ L) (hI : Inv M) (kk : ∀ N, Inv N → AW G R_law code 4 ret (XL G b L xs) 1195 [(0, vR 63), (1, vR 0), (2, vR 44), (3, vI i)] [] N) : AW G R_law code 4 ret (XL G b L xs) 283 [(0, vR 63), (1, vR 0), (2, vR 44), (3, vI i)] [] M := by
  refine a_aload_n (kL1.at 27 rfl) 1 rfl ?_
  refine a_aload_n (kL1.at 28 rfl) 0 rfl ?_
  refine a_iload_n (kL1.at 29 rfl) 3 rfl ?_
  refine a_iconst (kL1.at 30 rfl) rfl ?_
  refine a_iadd (kL1.at 31 rfl) (inr (by omega)) ?_
  refine a_sld (kL1.at 32 rfl) (by omega) ?_
  refine a_aload_n (kL1.at 33 rfl) 0 rfl ?_
  refine a_iload_n (kL1.at 34 rfl) 3 rfl ?_
  refine a_iconst (kL1.at 35 rfl) rfl ?_
  refine a_iadd (kL1.at 36 rfl) (inr (by omega)) ?_
  refine a_sld (kL1.at 37 rfl) (by omega) ?_
  refine a_aload_n (kL1.at 38 rfl) 0 rfl ?_
  refine a_iload_n (kL1.at 39 rfl) 3 rfl ?_
  refine a_iconst (kL1.at 40 rfl) rfl ?_
  refine a_iadd (kL1.at 41 rfl) (inr (by omega)) ?_
  refine a_sld (kL1.at 42 rfl) (by omega) ?_
  refine AW.callV (as := [vI (sc xs (i + 1)), vI (sc xs (i + 2)), vI (sc xs (i + 3))]) (st := []) (kL1.at 43 rfl) ml_L_36 sv_X5_event (k := 0) (io_0) rfl rfl ⟨Nat.le_of_ble_eq_true rfl, Nat.le_of_ble_eq_true rfl⟩ ⟨Nat.le_refl _, Nat.le_refl _⟩ rfl rfl (Nat.le_of_ble_eq_true rfl) (a_kevent G M (sc xs (i + 1)) (sc xs (i + 2)) (sc xs (i + 3)) hI) (kI fun r N1 hr => ?_)
  obtain ⟨er, c1, f1⟩ := hr; rw [er]
  refine a_aload_n (kL1.at 44 rfl) 2 rfl ?_
  refine a_aload_n (kL1.at 45 rfl) 0 rfl ?_
  refine a_iload_n (kL1.at 46 rfl) 3 rfl ?_
  refine a_iconst (kL1.at 47 rfl) rfl ?_
  refine a_iadd (kL1.at 48 rfl) (inr (by omega)) ?_
  refine a_sld (kL1.at 49 rfl) (by omega) ?_
  refine a_aload_n (kL1.at 50 rfl) 0 rfl ?_
  refine a_iload_n (kL1.at 51 rfl) 3 rfl ?_
  refine a_iconst (kL1.at 52 rfl) rfl ?_
  refine a_iadd (kL1.at 53 rfl) (inr (by omega)) ?_
  refine a_sld (kL1.at 54 rfl) (by omega) ?_
  refine a_aload_n (kL1.at 55 rfl) 0 rfl ?_
  refine a_iload_n (kL1.at 56 rfl) 3 rfl ?_
  refine a_iconst (kL1.at 57 rfl) rfl ?_
  refine a_iadd (kL1.at 58 rfl) (inr (by omega)) ?_
  refine a_sld (kL1.at 59 rfl) (by omega) ?_
  refine AW.callV (as := [vI (sc xs (i + 1)), vI (sc xs (i + 2)), vI (sc xs (i + 3))]) (st := [vI ((o_event M (sc xs (i + 1)) (sc xs (i + 2)) (sc xs (i + 3))).1)]) (kL2.at 0 rfl) ml_L_40 sv_X6_event (k := 44) (io_44) rfl rfl ⟨Nat.le_of_ble_eq_true rfl, Nat.le_of_ble_eq_true rfl⟩ ⟨Nat.le_refl _, Nat.le_refl _⟩ rfl rfl (Nat.le_of_ble_eq_true rfl) (a_cevent G M N1 (sc xs (i + 1)) (sc xs (i + 2)) (sc xs (i + 3)) hI c1 f1) (kI fun r N2 hr => ?_)
  obtain ⟨er, hI2⟩ := hr; rw [er]
  refine a_icmpeq (tgt := 1195) (kL2.at 1 rfl) (by decide) (fun h321 => ?_) (fun h321 => ?_)
  · exact kk N2 hI2
  · exact absurd rfl h321
set_option maxHeartbeats 4000000 in
theorem lc_back (G : GT) (b L : Nat) (xs : Nat → Int32) (M : Mem) (i : Int) (hL : L ≤ 3072) (h0 : 0 ≤ i) (h1 : i + 6 ≤ L) (hI : Inv M) (kk : ∀ N, Inv N → AW G R_law code 4 ret (XL G b L xs) 1195 [(0, vR 63), (1, vR 0), (2, vR 44), (3, vI i)] [] N) : AW G R_law code 4 ret (XL G b L xs) 326 [(0, vR 63), (1, vR 0), (2, vR 44), (3, vI i)] [] M := by
  refine a_aload_n (kL2.at 4 rfl) 1 rfl ?_
  refine AW.callV (as := []) (st := []) (kL2.at 5 rfl) ml_L_41 sv_X5_back (k := 0) (io_0) rfl rfl ⟨Nat.le_of_ble_eq_true rfl, Nat.le_of_ble_eq_true rfl⟩ ⟨Nat.le_refl _, Nat.le_refl _⟩ rfl rfl (Nat.le_of_ble_eq_true rfl) (a_kback G M hI) (kI fun r N1 hr => ?_)
  obtain ⟨er, c1, f1⟩ := hr; rw [er]
  refine a_aload_n (kL2.at 6 rfl) 2 rfl ?_
  refine AW.callV (as := []) (st := [vI ((o_back M).1)]) (kL2.at 7 rfl) ml_L_44 sv_X6_back (k := 44) (io_44) rfl rfl ⟨Nat.le_of_ble_eq_true rfl, Nat.le_of_ble_eq_true rfl⟩ ⟨Nat.le_refl _, Nat.le_refl _⟩ rfl rfl (Nat.le_of_ble_eq_true rfl) (a_cback G M N1 hI c1 f1) (kI fun r N2 hr => ?_)
  obtain ⟨er, hI2⟩ := hr; rw [er]
  refine a_icmpeq (tgt := 1195) (kL2.at 8 rfl) (by decide) (fun h334 => ?_) (fun h334 => ?_)
  · exact kk N2 hI2
  · exact absurd rfl h334
set_option maxHeartbeats 4000000 in
theorem lc_read (G : GT) (b L : Nat) (xs : Nat → Int32) (M : Mem) (i : Int) (hL : L ≤ 3072) (h0 : 0 ≤ i) (h1 : i + 6 ≤ L) (hI : Inv M) (kk : ∀ N, Inv N → AW G R_law code 4 ret (XL G b L xs) 1195 [(0, vR 63), (1, vR 0), (2, vR 44), (3, vI i)] [] N) : AW G R_law code 4 ret (XL G b L xs) 339 [(0, vR 63), (1, vR 0), (2, vR 44), (3, vI i)] [] M := by
  refine a_aload_n (kL2.at 11 rfl) 1 rfl ?_
  refine a_aload_n (kL2.at 12 rfl) 0 rfl ?_
  refine a_iload_n (kL2.at 13 rfl) 3 rfl ?_
  refine a_iconst (kL2.at 14 rfl) rfl ?_
  refine a_iadd (kL2.at 15 rfl) (inr (by omega)) ?_
  refine a_sld (kL2.at 16 rfl) (by omega) ?_
  refine AW.callV (as := [vI (sc xs (i + 1))]) (st := []) (kL2.at 17 rfl) ml_L_45 sv_X5_read (k := 0) (io_0) rfl rfl ⟨Nat.le_of_ble_eq_true rfl, Nat.le_of_ble_eq_true rfl⟩ ⟨Nat.le_refl _, Nat.le_refl _⟩ rfl rfl (Nat.le_of_ble_eq_true rfl) (a_kread G M (sc xs (i + 1)) hI) (kI fun r N1 hr => ?_)
  obtain ⟨er, c1, f1⟩ := hr; rw [er]
  refine a_aload_n (kL2.at 18 rfl) 2 rfl ?_
  refine a_aload_n (kL2.at 19 rfl) 0 rfl ?_
  refine a_iload_n (kL2.at 20 rfl) 3 rfl ?_
  refine a_iconst (kL2.at 21 rfl) rfl ?_
  refine a_iadd (kL2.at 22 rfl) (inr (by omega)) ?_
  refine a_sld (kL2.at 23 rfl) (by omega) ?_
  refine AW.callV (as := [vI (sc xs (i + 1))]) (st := [vI ((o_read M (sc xs (i + 1))).1)]) (kL2.at 24 rfl) ml_L_48 sv_X6_read (k := 44) (io_44) rfl rfl ⟨Nat.le_of_ble_eq_true rfl, Nat.le_of_ble_eq_true rfl⟩ ⟨Nat.le_refl _, Nat.le_refl _⟩ rfl rfl (Nat.le_of_ble_eq_true rfl) (a_cread G M N1 (sc xs (i + 1)) hI c1 f1) (kI fun r N2 hr => ?_)
  obtain ⟨er, hI2⟩ := hr; rw [er]
  refine a_icmpeq (tgt := 1195) (kL2.at 25 rfl) (by decide) (fun h357 => ?_) (fun h357 => ?_)
  · exact kk N2 hI2
  · exact absurd rfl h357
set_option maxHeartbeats 4000000 in
theorem lc_at (G : GT) (b L : Nat) (xs : Nat → Int32) (M : Mem) (i : Int) (hL : L ≤ 3072) (h0 : 0 ≤ i) (h1 : i + 6 ≤ L) (hI : Inv M) (kk : ∀ N, Inv N → AW G R_law code 4 ret (XL G b L xs) 1195 [(0, vR 63), (1, vR 0), (2, vR 44), (3, vI i)] [] N) : AW G R_law code 4 ret (XL G b L xs) 362 [(0, vR 63), (1, vR 0), (2, vR 44), (3, vI i)] [] M := by
  refine a_aload_n (kL2.at 28 rfl) 1 rfl ?_
  refine a_aload_n (kL2.at 29 rfl) 0 rfl ?_
  refine a_iload_n (kL2.at 30 rfl) 3 rfl ?_
  refine a_iconst (kL2.at 31 rfl) rfl ?_
  refine a_iadd (kL2.at 32 rfl) (inr (by omega)) ?_
  refine a_sld (kL2.at 33 rfl) (by omega) ?_
  refine a_aload_n (kL2.at 34 rfl) 0 rfl ?_
  refine a_iload_n (kL2.at 35 rfl) 3 rfl ?_
  refine a_iconst (kL2.at 36 rfl) rfl ?_
  refine a_iadd (kL2.at 37 rfl) (inr (by omega)) ?_
  refine a_sld (kL2.at 38 rfl) (by omega) ?_
  refine a_aload_n (kL2.at 39 rfl) 0 rfl ?_
  refine a_iload_n (kL2.at 40 rfl) 3 rfl ?_
  refine a_iconst (kL2.at 41 rfl) rfl ?_
  refine a_iadd (kL2.at 42 rfl) (inr (by omega)) ?_
  refine a_sld (kL2.at 43 rfl) (by omega) ?_
  refine AW.callV (as := [vI (sc xs (i + 1)), vI (sc xs (i + 2)), vI (sc xs (i + 3))]) (st := []) (kL2.at 44 rfl) ml_L_49 sv_X5_at (k := 0) (io_0) rfl rfl ⟨Nat.le_of_ble_eq_true rfl, Nat.le_of_ble_eq_true rfl⟩ ⟨Nat.le_refl _, Nat.le_refl _⟩ rfl rfl (Nat.le_of_ble_eq_true rfl) (a_kat G M (sc xs (i + 1)) (sc xs (i + 2)) (sc xs (i + 3)) hI) (kI fun r N1 hr => ?_)
  obtain ⟨er, c1, f1⟩ := hr; rw [er]
  refine a_aload_n (kL2.at 45 rfl) 2 rfl ?_
  refine a_aload_n (kL2.at 46 rfl) 0 rfl ?_
  refine a_iload_n (kL2.at 47 rfl) 3 rfl ?_
  refine a_iconst (kL2.at 48 rfl) rfl ?_
  refine a_iadd (kL2.at 49 rfl) (inr (by omega)) ?_
  refine a_sld (kL2.at 50 rfl) (by omega) ?_
  refine a_aload_n (kL2.at 51 rfl) 0 rfl ?_
  refine a_iload_n (kL2.at 52 rfl) 3 rfl ?_
  refine a_iconst (kL2.at 53 rfl) rfl ?_
  refine a_iadd (kL2.at 54 rfl) (inr (by omega)) ?_
  refine a_sld (kL2.at 55 rfl) (by omega) ?_
  refine a_aload_n (kL2.at 56 rfl) 0 rfl ?_
  refine a_iload_n (kL2.at 57 rfl) 3 rfl ?_
  refine a_iconst (kL2.at 58 rfl) rfl ?_
  refine a_iadd (kL2.at 59 rfl) (inr (by omega)) ?_
  refine a_sld (kL3.at 0 rfl) (by omega) ?_
  refine AW.callV (as := [vI (sc xs (i + 1)), vI (sc xs (i + 2)), vI (sc xs (i + 3))]) (st := [vI (o_at M (sc xs (i + 1)) (sc xs (i + 2)) (sc xs (i + 3)))]) (kL3.at 1 rfl) ml_L_52 sv_X6_at (k := 44) (io_44) rfl rfl ⟨Nat.le_of_ble_eq_true rfl, Nat.le_of_ble_eq_true rfl⟩ ⟨Nat.le_refl _, Nat.le_refl _⟩ rfl rfl (Nat.le_of_ble_eq_true rfl) (a_cat G M N1 (sc xs (i + 1)) (sc xs (i + 2)) (sc xs (i + 3)) hI c1 f1) (kI fun r N2 hr => ?_)
  obtain ⟨er, hI2⟩ := hr; rw [er]
  refine a_icmpeq (tgt := 1195) (kL3.at 2 rfl) (by decide) (fun h400 => ?_) (fun h400 => ?_)
  · exact kk N2 hI2
  · exact absurd rfl h400
set_option maxHeartbeats 4000000 in
theorem lc_house (G : GT) (b L : Nat) (xs : Nat → Int32) (M : Mem) (i : Int) (hL : L ≤ 3072) (h0 : 0 ≤ i) (h1 : i + 6 ≤ L) (hI : Inv M) (kk : ∀ N, Inv N → AW G R_law code 4 ret (XL G b L xs) 1195 [(0, vR 63), (1, vR 0), (2, vR 44), (3, vI i)] [] N) : AW G R_law code 4 ret (XL G b L xs) 405 [(0, vR 63), (1, vR 0), (2, vR 44), (3, vI i)] [] M := by
  refine a_aload_n (kL3.at 5 rfl) 1 rfl ?_
  refine a_aload_n (kL3.at 6 rfl) 0 rfl ?_
  refine a_iload_n (kL3.at 7 rfl) 3 rfl ?_
  refine a_iconst (kL3.at 8 rfl) rfl ?_
  refine a_iadd (kL3.at 9 rfl) (inr (by omega)) ?_
  refine a_sld (kL3.at 10 rfl) (by omega) ?_
  refine a_aload_n (kL3.at 11 rfl) 0 rfl ?_
  refine a_iload_n (kL3.at 12 rfl) 3 rfl ?_
  refine a_iconst (kL3.at 13 rfl) rfl ?_
  refine a_iadd (kL3.at 14 rfl) (inr (by omega)) ?_
  refine a_sld (kL3.at 15 rfl) (by omega) ?_
  refine AW.callV (as := [vI (sc xs (i + 1)), vI (sc xs (i + 2))]) (st := []) (kL3.at 16 rfl) ml_L_53 sv_X5_house (k := 0) (io_0) rfl rfl ⟨Nat.le_of_ble_eq_true rfl, Nat.le_of_ble_eq_true rfl⟩ ⟨Nat.le_refl _, Nat.le_refl _⟩ rfl rfl (Nat.le_of_ble_eq_true rfl) (a_khouse G M (sc xs (i + 1)) (sc xs (i + 2)) hI) (kI fun r N1 hr => ?_)
  obtain ⟨er, c1, f1⟩ := hr; rw [er]
  refine a_aload_n (kL3.at 17 rfl) 2 rfl ?_
  refine a_aload_n (kL3.at 18 rfl) 0 rfl ?_
  refine a_iload_n (kL3.at 19 rfl) 3 rfl ?_
  refine a_iconst (kL3.at 20 rfl) rfl ?_
  refine a_iadd (kL3.at 21 rfl) (inr (by omega)) ?_
  refine a_sld (kL3.at 22 rfl) (by omega) ?_
  refine a_aload_n (kL3.at 23 rfl) 0 rfl ?_
  refine a_iload_n (kL3.at 24 rfl) 3 rfl ?_
  refine a_iconst (kL3.at 25 rfl) rfl ?_
  refine a_iadd (kL3.at 26 rfl) (inr (by omega)) ?_
  refine a_sld (kL3.at 27 rfl) (by omega) ?_
  refine AW.callV (as := [vI (sc xs (i + 1)), vI (sc xs (i + 2))]) (st := [vI (o_house M (sc xs (i + 1)) (sc xs (i + 2)))]) (kL3.at 28 rfl) ml_L_56 sv_X6_house (k := 44) (io_44) rfl rfl ⟨Nat.le_of_ble_eq_true rfl, Nat.le_of_ble_eq_true rfl⟩ ⟨Nat.le_refl _, Nat.le_refl _⟩ rfl rfl (Nat.le_of_ble_eq_true rfl) (a_chouse G M N1 (sc xs (i + 1)) (sc xs (i + 2)) hI c1 f1) (kI fun r N2 hr => ?_)
  obtain ⟨er, hI2⟩ := hr; rw [er]
  refine a_icmpeq (tgt := 1195) (kL3.at 29 rfl) (by decide) (fun h433 => ?_) (fun h433 => ?_)
  · exact kk N2 hI2
  · exact absurd rfl h433
set_option maxHeartbeats 4000000 in
theorem lc_pairs (G : GT) (b L : Nat) (xs : Nat → Int32) (M : Mem) (i : Int) (hL : L ≤ 3072) (h0 : 0 ≤ i) (h1 : i + 6 ≤ L) (hI : Inv M) (kk : ∀ N, Inv N → AW G R_law code 4 ret (XL G b L xs) 1195 [(0, vR 63), (1, vR 0), (2, vR 44), (3, vI i)] [] N) : AW G R_law code 4 ret (XL G b L xs) 438 [(0, vR 63), (1, vR 0), (2, vR 44), (3, vI i)] [] M := by
  refine a_aload_n (kL3.at 32 rfl) 1 rfl ?_
  refine a_aload_n (kL3.at 33 rfl) 0 rfl ?_
  refine a_iload_n (kL3.at 34 rfl) 3 rfl ?_
  refine a_iconst (kL3.at 35 rfl) rfl ?_
  refine a_iadd (kL3.at 36 rfl) (inr (by omega)) ?_
  refine a_sld (kL3.at 37 rfl) (by omega) ?_
  refine a_aload_n (kL3.at 38 rfl) 0 rfl ?_
  refine a_iload_n (kL3.at 39 rfl) 3 rfl ?_
  refine a_iconst (kL3.at 40 rfl) rfl ?_
  refine a_iadd (kL3.at 41 rfl) (inr (by omega)) ?_
  refine a_sld (kL3.at 42 rfl) (by omega) ?_
  refine AW.callV (as := [vI (sc xs (i + 1)), vI (sc xs (i + 2))]) (st := []) (kL3.at 43 rfl) ml_L_57 sv_X5_pairs (k := 0) (io_0) rfl rfl ⟨Nat.le_of_ble_eq_true rfl, Nat.le_of_ble_eq_true rfl⟩ ⟨Nat.le_refl _, Nat.le_refl _⟩ rfl rfl (Nat.le_of_ble_eq_true rfl) (a_kpairs G M (sc xs (i + 1)) (sc xs (i + 2)) hI) (kI fun r N1 hr => ?_)
  obtain ⟨er, c1, f1⟩ := hr; rw [er]
  refine a_aload_n (kL3.at 44 rfl) 2 rfl ?_
  refine a_aload_n (kL3.at 45 rfl) 0 rfl ?_
  refine a_iload_n (kL3.at 46 rfl) 3 rfl ?_
  refine a_iconst (kL3.at 47 rfl) rfl ?_
  refine a_iadd (kL3.at 48 rfl) (inr (by omega)) ?_
  refine a_sld (kL3.at 49 rfl) (by omega) ?_
  refine a_aload_n (kL3.at 50 rfl) 0 rfl ?_
  refine a_iload_n (kL3.at 51 rfl) 3 rfl ?_
  refine a_iconst (kL3.at 52 rfl) rfl ?_
  refine a_iadd (kL3.at 53 rfl) (inr (by omega)) ?_
  refine a_sld (kL3.at 54 rfl) (by omega) ?_
  refine AW.callV (as := [vI (sc xs (i + 1)), vI (sc xs (i + 2))]) (st := [vI (o_pairs M (sc xs (i + 1)) (sc xs (i + 2)))]) (kL3.at 55 rfl) ml_L_60 sv_X6_pairs (k := 44) (io_44) rfl rfl ⟨Nat.le_of_ble_eq_true rfl, Nat.le_of_ble_eq_true rfl⟩ ⟨Nat.le_refl _, Nat.le_refl _⟩ rfl rfl (Nat.le_of_ble_eq_true rfl) (a_cpairs G M N1 (sc xs (i + 1)) (sc xs (i + 2)) hI c1 f1) (kI fun r N2 hr => ?_)
  obtain ⟨er, hI2⟩ := hr; rw [er]
  refine a_icmpeq (tgt := 1195) (kL3.at 56 rfl) (by decide) (fun h466 => ?_) (fun h466 => ?_)
  · exact kk N2 hI2
  · exact absurd rfl h466
set_option maxHeartbeats 4000000 in
theorem lc_bored (G : GT) (b L : Nat) (xs : Nat → Int32) (M : Mem) (i : Int) (hL : L ≤ 3072) (h0 : 0 ≤ i) (h1 : i + 6 ≤ L) (hI : Inv M) (kk : ∀ N, Inv N → AW G R_law code 4 ret (XL G b L xs) 1195 [(0, vR 63), (1, vR 0), (2, vR 44), (3, vI i)] [] N) : AW G R_law code 4 ret (XL G b L xs) 471 [(0, vR 63), (1, vR 0), (2, vR 44), (3, vI i)] [] M := by
  refine a_aload_n (kL3.at 59 rfl) 1 rfl ?_
  refine a_aload_n (kL4.at 0 rfl) 0 rfl ?_
  refine a_iload_n (kL4.at 1 rfl) 3 rfl ?_
  refine a_iconst (kL4.at 2 rfl) rfl ?_
  refine a_iadd (kL4.at 3 rfl) (inr (by omega)) ?_
  refine a_sld (kL4.at 4 rfl) (by omega) ?_
  refine AW.callV (as := [vI (sc xs (i + 1))]) (st := []) (kL4.at 5 rfl) ml_L_61 sv_X5_bored (k := 0) (io_0) rfl rfl ⟨Nat.le_of_ble_eq_true rfl, Nat.le_of_ble_eq_true rfl⟩ ⟨Nat.le_refl _, Nat.le_refl _⟩ rfl rfl (Nat.le_of_ble_eq_true rfl) (a_kbored G M (sc xs (i + 1)) hI) (kI fun r N1 hr => ?_)
  obtain ⟨er, c1, f1⟩ := hr; rw [er]
  refine a_aload_n (kL4.at 6 rfl) 2 rfl ?_
  refine a_aload_n (kL4.at 7 rfl) 0 rfl ?_
  refine a_iload_n (kL4.at 8 rfl) 3 rfl ?_
  refine a_iconst (kL4.at 9 rfl) rfl ?_
  refine a_iadd (kL4.at 10 rfl) (inr (by omega)) ?_
  refine a_sld (kL4.at 11 rfl) (by omega) ?_
  refine AW.callV (as := [vI (sc xs (i + 1))]) (st := [vI (o_bored M (sc xs (i + 1)))]) (kL4.at 12 rfl) ml_L_64 sv_X6_bored (k := 44) (io_44) rfl rfl ⟨Nat.le_of_ble_eq_true rfl, Nat.le_of_ble_eq_true rfl⟩ ⟨Nat.le_refl _, Nat.le_refl _⟩ rfl rfl (Nat.le_of_ble_eq_true rfl) (a_cbored G M N1 (sc xs (i + 1)) hI c1 f1) (kI fun r N2 hr => ?_)
  obtain ⟨er, hI2⟩ := hr; rw [er]
  refine a_icmpeq (tgt := 1195) (kL4.at 13 rfl) (by decide) (fun h489 => ?_) (fun h489 => ?_)
  · exact kk N2 hI2
  · exact absurd rfl h489
set_option maxHeartbeats 4000000 in
theorem lc_sum (G : GT) (b L : Nat) (xs : Nat → Int32) (M : Mem) (i : Int) (hL : L ≤ 3072) (h0 : 0 ≤ i) (h1 : i + 6 ≤ L) (hI : Inv M) (kk : ∀ N, Inv N → AW G R_law code 4 ret (XL G b L xs) 1195 [(0, vR 63), (1, vR 0), (2, vR 44), (3, vI i)] [] N) : AW G R_law code 4 ret (XL G b L xs) 494 [(0, vR 63), (1, vR 0), (2, vR 44), (3, vI i)] [] M := by
  refine a_aload_n (kL4.at 16 rfl) 1 rfl ?_
  refine a_aload_n (kL4.at 17 rfl) 0 rfl ?_
  refine a_iload_n (kL4.at 18 rfl) 3 rfl ?_
  refine a_iconst (kL4.at 19 rfl) rfl ?_
  refine a_iadd (kL4.at 20 rfl) (inr (by omega)) ?_
  refine a_sld (kL4.at 21 rfl) (by omega) ?_
  refine AW.callV (as := [vI (sc xs (i + 1))]) (st := []) (kL4.at 22 rfl) ml_L_65 sv_X5_sum (k := 0) (io_0) rfl rfl ⟨Nat.le_of_ble_eq_true rfl, Nat.le_of_ble_eq_true rfl⟩ ⟨Nat.le_refl _, Nat.le_refl _⟩ rfl rfl (Nat.le_of_ble_eq_true rfl) (a_ksum G M (sc xs (i + 1)) hI) (kI fun r N1 hr => ?_)
  obtain ⟨er, c1, f1⟩ := hr; rw [er]
  refine a_aload_n (kL4.at 23 rfl) 2 rfl ?_
  refine a_aload_n (kL4.at 24 rfl) 0 rfl ?_
  refine a_iload_n (kL4.at 25 rfl) 3 rfl ?_
  refine a_iconst (kL4.at 26 rfl) rfl ?_
  refine a_iadd (kL4.at 27 rfl) (inr (by omega)) ?_
  refine a_sld (kL4.at 28 rfl) (by omega) ?_
  refine AW.callV (as := [vI (sc xs (i + 1))]) (st := [vI (o_sum M (sc xs (i + 1)))]) (kL4.at 29 rfl) ml_L_68 sv_X6_sum (k := 44) (io_44) rfl rfl ⟨Nat.le_of_ble_eq_true rfl, Nat.le_of_ble_eq_true rfl⟩ ⟨Nat.le_refl _, Nat.le_refl _⟩ rfl rfl (Nat.le_of_ble_eq_true rfl) (a_csum G M N1 (sc xs (i + 1)) hI c1 f1) (kI fun r N2 hr => ?_)
  obtain ⟨er, hI2⟩ := hr; rw [er]
  refine a_icmpeq (tgt := 1195) (kL4.at 30 rfl) (by decide) (fun h512 => ?_) (fun h512 => ?_)
  · exact kk N2 hI2
  · exact absurd rfl h512
set_option maxHeartbeats 4000000 in
theorem lc_first (G : GT) (b L : Nat) (xs : Nat → Int32) (M : Mem) (i : Int) (hL : L ≤ 3072) (h0 : 0 ≤ i) (h1 : i + 6 ≤ L) (hI : Inv M) (kk : ∀ N, Inv N → AW G R_law code 4 ret (XL G b L xs) 1195 [(0, vR 63), (1, vR 0), (2, vR 44), (3, vI i)] [] N) : AW G R_law code 4 ret (XL G b L xs) 517 [(0, vR 63), (1, vR 0), (2, vR 44), (3, vI i)] [] M := by
  refine a_aload_n (kL4.at 33 rfl) 1 rfl ?_
  refine a_aload_n (kL4.at 34 rfl) 0 rfl ?_
  refine a_iload_n (kL4.at 35 rfl) 3 rfl ?_
  refine a_iconst (kL4.at 36 rfl) rfl ?_
  refine a_iadd (kL4.at 37 rfl) (inr (by omega)) ?_
  refine a_sld (kL4.at 38 rfl) (by omega) ?_
  refine AW.callV (as := [vI (sc xs (i + 1))]) (st := []) (kL4.at 39 rfl) ml_L_69 sv_X5_first (k := 0) (io_0) rfl rfl ⟨Nat.le_of_ble_eq_true rfl, Nat.le_of_ble_eq_true rfl⟩ ⟨Nat.le_refl _, Nat.le_refl _⟩ rfl rfl (Nat.le_of_ble_eq_true rfl) (a_kfirst G M (sc xs (i + 1)) hI) (kI fun r N1 hr => ?_)
  obtain ⟨er, c1, f1⟩ := hr; rw [er]
  refine a_aload_n (kL4.at 40 rfl) 2 rfl ?_
  refine a_aload_n (kL4.at 41 rfl) 0 rfl ?_
  refine a_iload_n (kL4.at 42 rfl) 3 rfl ?_
  refine a_iconst (kL4.at 43 rfl) rfl ?_
  refine a_iadd (kL4.at 44 rfl) (inr (by omega)) ?_
  refine a_sld (kL4.at 45 rfl) (by omega) ?_
  refine AW.callV (as := [vI (sc xs (i + 1))]) (st := [vI (o_first M (sc xs (i + 1)))]) (kL4.at 46 rfl) ml_L_72 sv_X6_first (k := 44) (io_44) rfl rfl ⟨Nat.le_of_ble_eq_true rfl, Nat.le_of_ble_eq_true rfl⟩ ⟨Nat.le_refl _, Nat.le_refl _⟩ rfl rfl (Nat.le_of_ble_eq_true rfl) (a_cfirst G M N1 (sc xs (i + 1)) hI c1 f1) (kI fun r N2 hr => ?_)
  obtain ⟨er, hI2⟩ := hr; rw [er]
  refine a_icmpeq (tgt := 1195) (kL4.at 47 rfl) (by decide) (fun h535 => ?_) (fun h535 => ?_)
  · exact kk N2 hI2
  · exact absurd rfl h535
set_option maxHeartbeats 4000000 in
theorem lc_rooted (G : GT) (b L : Nat) (xs : Nat → Int32) (M : Mem) (i : Int) (hL : L ≤ 3072) (h0 : 0 ≤ i) (h1 : i + 6 ≤ L) (hI : Inv M) (kk : ∀ N, Inv N → AW G R_law code 4 ret (XL G b L xs) 1195 [(0, vR 63), (1, vR 0), (2, vR 44), (3, vI i)] [] N) : AW G R_law code 4 ret (XL G b L xs) 540 [(0, vR 63), (1, vR 0), (2, vR 44), (3, vI i)] [] M := by
  refine a_aload_n (kL4.at 50 rfl) 1 rfl ?_
  refine AW.callV (as := []) (st := []) (kL4.at 51 rfl) ml_L_73 sv_X5_rooted (k := 0) (io_0) rfl rfl ⟨Nat.le_of_ble_eq_true rfl, Nat.le_of_ble_eq_true rfl⟩ ⟨Nat.le_refl _, Nat.le_refl _⟩ rfl rfl (Nat.le_of_ble_eq_true rfl) (a_krooted G M hI) (kI fun r N1 hr => ?_)
  obtain ⟨er, c1, f1⟩ := hr; rw [er]
  refine a_aload_n (kL4.at 52 rfl) 2 rfl ?_
  refine AW.callV (as := []) (st := [vI (rootedNow (find M))]) (kL4.at 53 rfl) ml_L_76 sv_X6_rooted (k := 44) (io_44) rfl rfl ⟨Nat.le_of_ble_eq_true rfl, Nat.le_of_ble_eq_true rfl⟩ ⟨Nat.le_refl _, Nat.le_refl _⟩ rfl rfl (Nat.le_of_ble_eq_true rfl) (a_crooted G M N1 hI c1 f1) (kI fun r N2 hr => ?_)
  obtain ⟨er, hI2⟩ := hr; rw [er]
  refine a_icmpeq (tgt := 1195) (kL4.at 54 rfl) (by decide) (fun h548 => ?_) (fun h548 => ?_)
  · exact kk N2 hI2
  · exact absurd rfl h548
set_option maxHeartbeats 4000000 in
theorem lc_friends (G : GT) (b L : Nat) (xs : Nat → Int32) (M : Mem) (i : Int) (hL : L ≤ 3072) (h0 : 0 ≤ i) (h1 : i + 6 ≤ L) (hI : Inv M) (kk : ∀ N, Inv N → AW G R_law code 4 ret (XL G b L xs) 1195 [(0, vR 63), (1, vR 0), (2, vR 44), (3, vI i)] [] N) : AW G R_law code 4 ret (XL G b L xs) 553 [(0, vR 63), (1, vR 0), (2, vR 44), (3, vI i)] [] M := by
  refine a_aload_n (kL4.at 57 rfl) 1 rfl ?_
  refine a_aload_n (kL4.at 58 rfl) 0 rfl ?_
  refine a_iload_n (kL4.at 59 rfl) 3 rfl ?_
  refine a_iconst (kL5.at 0 rfl) rfl ?_
  refine a_iadd (kL5.at 1 rfl) (inr (by omega)) ?_
  refine a_sld (kL5.at 2 rfl) (by omega) ?_
  refine AW.callV (as := [vI (sc xs (i + 1))]) (st := []) (kL5.at 3 rfl) ml_L_77 sv_X5_friends (k := 0) (io_0) rfl rfl ⟨Nat.le_of_ble_eq_true rfl, Nat.le_of_ble_eq_true rfl⟩ ⟨Nat.le_refl _, Nat.le_refl _⟩ rfl rfl (Nat.le_of_ble_eq_true rfl) (a_kfriends G M (sc xs (i + 1)) hI) (kI fun r N1 hr => ?_)
  obtain ⟨er, c1, f1⟩ := hr; rw [er]
  refine a_aload_n (kL5.at 4 rfl) 2 rfl ?_
  refine a_aload_n (kL5.at 5 rfl) 0 rfl ?_
  refine a_iload_n (kL5.at 6 rfl) 3 rfl ?_
  refine a_iconst (kL5.at 7 rfl) rfl ?_
  refine a_iadd (kL5.at 8 rfl) (inr (by omega)) ?_
  refine a_sld (kL5.at 9 rfl) (by omega) ?_
  refine AW.callV (as := [vI (sc xs (i + 1))]) (st := [vI (o_friends M (sc xs (i + 1)))]) (kL5.at 10 rfl) ml_L_80 sv_X6_friends (k := 44) (io_44) rfl rfl ⟨Nat.le_of_ble_eq_true rfl, Nat.le_of_ble_eq_true rfl⟩ ⟨Nat.le_refl _, Nat.le_refl _⟩ rfl rfl (Nat.le_of_ble_eq_true rfl) (a_cfriends G M N1 (sc xs (i + 1)) hI c1 f1) (kI fun r N2 hr => ?_)
  obtain ⟨er, hI2⟩ := hr; rw [er]
  refine a_icmpeq (tgt := 1195) (kL5.at 11 rfl) (by decide) (fun h571 => ?_) (fun h571 => ?_)
  · exact kk N2 hI2
  · exact absurd rfl h571
set_option maxHeartbeats 4000000 in
theorem lc_settle (G : GT) (b L : Nat) (xs : Nat → Int32) (M : Mem) (i : Int) (hL : L ≤ 3072) (h0 : 0 ≤ i) (h1 : i + 6 ≤ L) (hI : Inv M) (kk : ∀ N, Inv N → AW G R_law code 4 ret (XL G b L xs) 1195 [(0, vR 63), (1, vR 0), (2, vR 44), (3, vI i)] [] N) : AW G R_law code 4 ret (XL G b L xs) 576 [(0, vR 63), (1, vR 0), (2, vR 44), (3, vI i)] [] M := by
  refine a_aload_n (kL5.at 14 rfl) 1 rfl ?_
  refine a_aload_n (kL5.at 15 rfl) 0 rfl ?_
  refine a_iload_n (kL5.at 16 rfl) 3 rfl ?_
  refine a_iconst (kL5.at 17 rfl) rfl ?_
  refine a_iadd (kL5.at 18 rfl) (inr (by omega)) ?_
  refine a_sld (kL5.at 19 rfl) (by omega) ?_
  refine a_aload_n (kL5.at 20 rfl) 0 rfl ?_
  refine a_iload_n (kL5.at 21 rfl) 3 rfl ?_
  refine a_iconst (kL5.at 22 rfl) rfl ?_
  refine a_iadd (kL5.at 23 rfl) (inr (by omega)) ?_
  refine a_sld (kL5.at 24 rfl) (by omega) ?_
  refine AW.callV (as := [vI (sc xs (i + 1)), vI (sc xs (i + 2))]) (st := []) (kL5.at 25 rfl) ml_L_81 sv_X5_settle (k := 0) (io_0) rfl rfl ⟨Nat.le_of_ble_eq_true rfl, Nat.le_of_ble_eq_true rfl⟩ ⟨Nat.le_refl _, Nat.le_refl _⟩ rfl rfl (Nat.le_of_ble_eq_true rfl) (a_ksettle G M (sc xs (i + 1)) (sc xs (i + 2)) hI) (kI fun r N1 hr => ?_)
  obtain ⟨er, c1, f1⟩ := hr; rw [er]
  refine a_aload_n (kL5.at 26 rfl) 2 rfl ?_
  refine a_aload_n (kL5.at 27 rfl) 0 rfl ?_
  refine a_iload_n (kL5.at 28 rfl) 3 rfl ?_
  refine a_iconst (kL5.at 29 rfl) rfl ?_
  refine a_iadd (kL5.at 30 rfl) (inr (by omega)) ?_
  refine a_sld (kL5.at 31 rfl) (by omega) ?_
  refine a_aload_n (kL5.at 32 rfl) 0 rfl ?_
  refine a_iload_n (kL5.at 33 rfl) 3 rfl ?_
  refine a_iconst (kL5.at 34 rfl) rfl ?_
  refine a_iadd (kL5.at 35 rfl) (inr (by omega)) ?_
  refine a_sld (kL5.at 36 rfl) (by omega) ?_
  refine AW.callV (as := [vI (sc xs (i + 1)), vI (sc xs (i + 2))]) (st := [vI (o_settle M (sc xs (i + 1)) (sc xs (i + 2)))]) (kL5.at 37 rfl) ml_L_84 sv_X6_settle (k := 44) (io_44) rfl rfl ⟨Nat.le_of_ble_eq_true rfl, Nat.le_of_ble_eq_true rfl⟩ ⟨Nat.le_refl _, Nat.le_refl _⟩ rfl rfl (Nat.le_of_ble_eq_true rfl) (a_csettle G M N1 (sc xs (i + 1)) (sc xs (i + 2)) hI c1 f1) (kI fun r N2 hr => ?_)
  obtain ⟨er, hI2⟩ := hr; rw [er]
  refine a_icmpeq (tgt := 1195) (kL5.at 38 rfl) (by decide) (fun h604 => ?_) (fun h604 => ?_)
  · exact kk N2 hI2
  · exact absurd rfl h604
set_option maxHeartbeats 4000000 in
theorem lc_think (G : GT) (b L : Nat) (xs : Nat → Int32) (M : Mem) (i : Int) (hL : L ≤ 3072) (h0 : 0 ≤ i) (h1 : i + 6 ≤ L) (hI : Inv M) (kk : ∀ N, Inv N → AW G R_law code 4 ret (XL G b L xs) 1195 [(0, vR 63), (1, vR 0), (2, vR 44), (3, vI i)] [] N) : AW G R_law code 4 ret (XL G b L xs) 609 [(0, vR 63), (1, vR 0), (2, vR 44), (3, vI i)] [] M := by
  refine a_aload_n (kL5.at 41 rfl) 1 rfl ?_
  refine a_aload_n (kL5.at 42 rfl) 0 rfl ?_
  refine a_iload_n (kL5.at 43 rfl) 3 rfl ?_
  refine a_iconst (kL5.at 44 rfl) rfl ?_
  refine a_iadd (kL5.at 45 rfl) (inr (by omega)) ?_
  refine a_sld (kL5.at 46 rfl) (by omega) ?_
  refine a_aload_n (kL5.at 47 rfl) 0 rfl ?_
  refine a_iload_n (kL5.at 48 rfl) 3 rfl ?_
  refine a_iconst (kL5.at 49 rfl) rfl ?_
  refine a_iadd (kL5.at 50 rfl) (inr (by omega)) ?_
  refine a_sld (kL5.at 51 rfl) (by omega) ?_
  refine AW.callV (as := [vI (sc xs (i + 1)), vI (sc xs (i + 2))]) (st := []) (kL5.at 52 rfl) ml_L_85 sv_X5_think (k := 0) (io_0) rfl rfl ⟨Nat.le_of_ble_eq_true rfl, Nat.le_of_ble_eq_true rfl⟩ ⟨Nat.le_refl _, Nat.le_refl _⟩ rfl rfl (Nat.le_of_ble_eq_true rfl) (a_kthink G M (sc xs (i + 1)) (sc xs (i + 2)) hI) (kI fun r N1 hr => ?_)
  obtain ⟨er, c1, f1⟩ := hr; rw [er]
  refine a_aload_n (kL5.at 53 rfl) 2 rfl ?_
  refine a_aload_n (kL5.at 54 rfl) 0 rfl ?_
  refine a_iload_n (kL5.at 55 rfl) 3 rfl ?_
  refine a_iconst (kL5.at 56 rfl) rfl ?_
  refine a_iadd (kL5.at 57 rfl) (inr (by omega)) ?_
  refine a_sld (kL5.at 58 rfl) (by omega) ?_
  refine a_aload_n (kL5.at 59 rfl) 0 rfl ?_
  refine a_iload_n (kL6.at 0 rfl) 3 rfl ?_
  refine a_iconst (kL6.at 1 rfl) rfl ?_
  refine a_iadd (kL6.at 2 rfl) (inr (by omega)) ?_
  refine a_sld (kL6.at 3 rfl) (by omega) ?_
  refine AW.callV (as := [vI (sc xs (i + 1)), vI (sc xs (i + 2))]) (st := [vI (o_think M (sc xs (i + 1)) (sc xs (i + 2)))]) (kL6.at 4 rfl) ml_L_88 sv_X6_think (k := 44) (io_44) rfl rfl ⟨Nat.le_of_ble_eq_true rfl, Nat.le_of_ble_eq_true rfl⟩ ⟨Nat.le_refl _, Nat.le_refl _⟩ rfl rfl (Nat.le_of_ble_eq_true rfl) (a_cthink G M N1 (sc xs (i + 1)) (sc xs (i + 2)) hI c1 f1) (kI fun r N2 hr => ?_)
  obtain ⟨er, hI2⟩ := hr; rw [er]
  refine a_icmpeq (tgt := 1195) (kL6.at 5 rfl) (by decide) (fun h637 => ?_) (fun h637 => ?_)
  · exact kk N2 hI2
  · exact absurd rfl h637
set_option maxHeartbeats 4000000 in
theorem lc_rest (G : GT) (b L : Nat) (xs : Nat → Int32) (M : Mem) (i : Int) (hL : L ≤ 3072) (h0 : 0 ≤ i) (h1 : i + 6 ≤ L) (hI : Inv M) (kk : ∀ N, Inv N → AW G R_law code 4 ret (XL G b L xs) 1195 [(0, vR 63), (1, vR 0), (2, vR 44), (3, vI i)] [] N) : AW G R_law code 4 ret (XL G b L xs) 642 [(0, vR 63), (1, vR 0), (2, vR 44), (3, vI i)] [] M := by
  refine a_aload_n (kL6.at 8 rfl) 1 rfl ?_
  refine a_aload_n (kL6.at 9 rfl) 0 rfl ?_
  refine a_iload_n (kL6.at 10 rfl) 3 rfl ?_
  refine a_iconst (kL6.at 11 rfl) rfl ?_
  refine a_iadd (kL6.at 12 rfl) (inr (by omega)) ?_
  refine a_sld (kL6.at 13 rfl) (by omega) ?_
  refine AW.callV (as := [vI (sc xs (i + 1))]) (st := []) (kL6.at 14 rfl) ml_L_89 sv_X5_rest (k := 0) (io_0) rfl rfl ⟨Nat.le_of_ble_eq_true rfl, Nat.le_of_ble_eq_true rfl⟩ ⟨Nat.le_refl _, Nat.le_refl _⟩ rfl rfl (Nat.le_of_ble_eq_true rfl) (a_krest G M (sc xs (i + 1)) hI) (kI fun r N1 hr => ?_)
  obtain ⟨er, c1, f1⟩ := hr; rw [er]
  refine a_aload_n (kL6.at 15 rfl) 2 rfl ?_
  refine a_aload_n (kL6.at 16 rfl) 0 rfl ?_
  refine a_iload_n (kL6.at 17 rfl) 3 rfl ?_
  refine a_iconst (kL6.at 18 rfl) rfl ?_
  refine a_iadd (kL6.at 19 rfl) (inr (by omega)) ?_
  refine a_sld (kL6.at 20 rfl) (by omega) ?_
  refine AW.callV (as := [vI (sc xs (i + 1))]) (st := [vI (o_rest M (sc xs (i + 1)))]) (kL6.at 21 rfl) ml_L_92 sv_X6_rest (k := 44) (io_44) rfl rfl ⟨Nat.le_of_ble_eq_true rfl, Nat.le_of_ble_eq_true rfl⟩ ⟨Nat.le_refl _, Nat.le_refl _⟩ rfl rfl (Nat.le_of_ble_eq_true rfl) (a_crest G M N1 (sc xs (i + 1)) hI c1 f1) (kI fun r N2 hr => ?_)
  obtain ⟨er, hI2⟩ := hr; rw [er]
  refine a_icmpeq (tgt := 1195) (kL6.at 22 rfl) (by decide) (fun h660 => ?_) (fun h660 => ?_)
  · exact kk N2 hI2
  · exact absurd rfl h660
set_option maxHeartbeats 4000000 in
theorem lc_spare (G : GT) (b L : Nat) (xs : Nat → Int32) (M : Mem) (i : Int) (hL : L ≤ 3072) (h0 : 0 ≤ i) (h1 : i + 6 ≤ L) (hI : Inv M) (kk : ∀ N, Inv N → AW G R_law code 4 ret (XL G b L xs) 1195 [(0, vR 63), (1, vR 0), (2, vR 44), (3, vI i)] [] N) : AW G R_law code 4 ret (XL G b L xs) 665 [(0, vR 63), (1, vR 0), (2, vR 44), (3, vI i)] [] M := by
  refine a_aload_n (kL6.at 25 rfl) 1 rfl ?_
  refine a_aload_n (kL6.at 26 rfl) 0 rfl ?_
  refine a_iload_n (kL6.at 27 rfl) 3 rfl ?_
  refine a_iconst (kL6.at 28 rfl) rfl ?_
  refine a_iadd (kL6.at 29 rfl) (inr (by omega)) ?_
  refine a_sld (kL6.at 30 rfl) (by omega) ?_
  refine AW.callV (as := [vI (sc xs (i + 1))]) (st := []) (kL6.at 31 rfl) ml_L_93 sv_X5_spare (k := 0) (io_0) rfl rfl ⟨Nat.le_of_ble_eq_true rfl, Nat.le_of_ble_eq_true rfl⟩ ⟨Nat.le_refl _, Nat.le_refl _⟩ rfl rfl (Nat.le_of_ble_eq_true rfl) (a_kspare G M (sc xs (i + 1)) hI) (kI fun r N1 hr => ?_)
  obtain ⟨er, c1, f1⟩ := hr; rw [er]
  refine a_aload_n (kL6.at 32 rfl) 2 rfl ?_
  refine a_aload_n (kL6.at 33 rfl) 0 rfl ?_
  refine a_iload_n (kL6.at 34 rfl) 3 rfl ?_
  refine a_iconst (kL6.at 35 rfl) rfl ?_
  refine a_iadd (kL6.at 36 rfl) (inr (by omega)) ?_
  refine a_sld (kL6.at 37 rfl) (by omega) ?_
  refine AW.callV (as := [vI (sc xs (i + 1))]) (st := [vI (o_spare M (sc xs (i + 1)))]) (kL6.at 38 rfl) ml_L_96 sv_X6_spare (k := 44) (io_44) rfl rfl ⟨Nat.le_of_ble_eq_true rfl, Nat.le_of_ble_eq_true rfl⟩ ⟨Nat.le_refl _, Nat.le_refl _⟩ rfl rfl (Nat.le_of_ble_eq_true rfl) (a_cspare G M N1 (sc xs (i + 1)) hI c1 f1) (kI fun r N2 hr => ?_)
  obtain ⟨er, hI2⟩ := hr; rw [er]
  refine a_icmpeq (tgt := 1195) (kL6.at 39 rfl) (by decide) (fun h683 => ?_) (fun h683 => ?_)
  · exact kk N2 hI2
  · exact absurd rfl h683
set_option maxHeartbeats 4000000 in
theorem lc_seen (G : GT) (b L : Nat) (xs : Nat → Int32) (M : Mem) (i : Int) (hL : L ≤ 3072) (h0 : 0 ≤ i) (h1 : i + 6 ≤ L) (hI : Inv M) (kk : ∀ N, Inv N → AW G R_law code 4 ret (XL G b L xs) 1195 [(0, vR 63), (1, vR 0), (2, vR 44), (3, vI i)] [] N) : AW G R_law code 4 ret (XL G b L xs) 688 [(0, vR 63), (1, vR 0), (2, vR 44), (3, vI i)] [] M := by
  refine a_aload_n (kL6.at 42 rfl) 1 rfl ?_
  refine a_aload_n (kL6.at 43 rfl) 0 rfl ?_
  refine a_iload_n (kL6.at 44 rfl) 3 rfl ?_
  refine a_iconst (kL6.at 45 rfl) rfl ?_
  refine a_iadd (kL6.at 46 rfl) (inr (by omega)) ?_
  refine a_sld (kL6.at 47 rfl) (by omega) ?_
  refine a_aload_n (kL6.at 48 rfl) 0 rfl ?_
  refine a_iload_n (kL6.at 49 rfl) 3 rfl ?_
  refine a_iconst (kL6.at 50 rfl) rfl ?_
  refine a_iadd (kL6.at 51 rfl) (inr (by omega)) ?_
  refine a_sld (kL6.at 52 rfl) (by omega) ?_
  refine a_aload_n (kL6.at 53 rfl) 0 rfl ?_
  refine a_iload_n (kL6.at 54 rfl) 3 rfl ?_
  refine a_iconst (kL6.at 55 rfl) rfl ?_
  refine a_iadd (kL6.at 56 rfl) (inr (by omega)) ?_
  refine a_sld (kL6.at 57 rfl) (by omega) ?_
  refine AW.callV (as := [vI (sc xs (i + 1)), vI (sc xs (i + 2)), vI (sc xs (i + 3))]) (st := []) (kL6.at 58 rfl) ml_L_97 sv_X5_seen (k := 0) (io_0) rfl rfl ⟨Nat.le_of_ble_eq_true rfl, Nat.le_of_ble_eq_true rfl⟩ ⟨Nat.le_refl _, Nat.le_refl _⟩ rfl rfl (Nat.le_of_ble_eq_true rfl) (a_kseen G M (sc xs (i + 1)) (sc xs (i + 2)) (sc xs (i + 3)) hI) (kI fun r N1 hr => ?_)
  obtain ⟨er, c1, f1⟩ := hr; rw [er]
  refine a_aload_n (kL6.at 59 rfl) 2 rfl ?_
  refine a_aload_n (kL7.at 0 rfl) 0 rfl ?_
  refine a_iload_n (kL7.at 1 rfl) 3 rfl ?_
  refine a_iconst (kL7.at 2 rfl) rfl ?_
  refine a_iadd (kL7.at 3 rfl) (inr (by omega)) ?_
  refine a_sld (kL7.at 4 rfl) (by omega) ?_
  refine a_aload_n (kL7.at 5 rfl) 0 rfl ?_
  refine a_iload_n (kL7.at 6 rfl) 3 rfl ?_
  refine a_iconst (kL7.at 7 rfl) rfl ?_
  refine a_iadd (kL7.at 8 rfl) (inr (by omega)) ?_
  refine a_sld (kL7.at 9 rfl) (by omega) ?_
  refine a_aload_n (kL7.at 10 rfl) 0 rfl ?_
  refine a_iload_n (kL7.at 11 rfl) 3 rfl ?_
  refine a_iconst (kL7.at 12 rfl) rfl ?_
  refine a_iadd (kL7.at 13 rfl) (inr (by omega)) ?_
  refine a_sld (kL7.at 14 rfl) (by omega) ?_
  refine AW.callV (as := [vI (sc xs (i + 1)), vI (sc xs (i + 2)), vI (sc xs (i + 3))]) (st := [vI ((o_seen M (sc xs (i + 1)) (sc xs (i + 2)) (sc xs (i + 3))).1)]) (kL7.at 15 rfl) ml_L_100 sv_X6_seen (k := 44) (io_44) rfl rfl ⟨Nat.le_of_ble_eq_true rfl, Nat.le_of_ble_eq_true rfl⟩ ⟨Nat.le_refl _, Nat.le_refl _⟩ rfl rfl (Nat.le_of_ble_eq_true rfl) (a_cseen G M N1 (sc xs (i + 1)) (sc xs (i + 2)) (sc xs (i + 3)) hI c1 f1) (kI fun r N2 hr => ?_)
  obtain ⟨er, hI2⟩ := hr; rw [er]
  refine a_icmpeq (tgt := 1195) (kL7.at 16 rfl) (by decide) (fun h726 => ?_) (fun h726 => ?_)
  · exact kk N2 hI2
  · exact absurd rfl h726
set_option maxHeartbeats 4000000 in
theorem lc_forget (G : GT) (b L : Nat) (xs : Nat → Int32) (M : Mem) (i : Int) (hL : L ≤ 3072) (h0 : 0 ≤ i) (h1 : i + 6 ≤ L) (hI : Inv M) (kk : ∀ N, Inv N → AW G R_law code 4 ret (XL G b L xs) 1195 [(0, vR 63), (1, vR 0), (2, vR 44), (3, vI i)] [] N) : AW G R_law code 4 ret (XL G b L xs) 731 [(0, vR 63), (1, vR 0), (2, vR 44), (3, vI i)] [] M := by
  refine a_aload_n (kL7.at 19 rfl) 1 rfl ?_
  refine AW.callV (as := []) (st := []) (kL7.at 20 rfl) ml_L_101 sv_X5_forget (k := 0) (io_0) rfl rfl ⟨Nat.le_of_ble_eq_true rfl, Nat.le_of_ble_eq_true rfl⟩ ⟨Nat.le_refl _, Nat.le_refl _⟩ rfl rfl (Nat.le_of_ble_eq_true rfl) (a_kforget G M hI) (kI fun r N1 hr => ?_)
  obtain ⟨er, c1, f1⟩ := hr; rw [er]
  refine a_aload_n (kL7.at 21 rfl) 2 rfl ?_
  refine AW.callV (as := []) (st := [vI (M 44 28)]) (kL7.at 22 rfl) ml_L_104 sv_X6_forget (k := 44) (io_44) rfl rfl ⟨Nat.le_of_ble_eq_true rfl, Nat.le_of_ble_eq_true rfl⟩ ⟨Nat.le_refl _, Nat.le_refl _⟩ rfl rfl (Nat.le_of_ble_eq_true rfl) (a_cforget G M N1 hI c1 f1) (kI fun r N2 hr => ?_)
  obtain ⟨er, hI2⟩ := hr; rw [er]
  refine a_icmpeq (tgt := 1195) (kL7.at 23 rfl) (by decide) (fun h739 => ?_) (fun h739 => ?_)
  · exact kk N2 hI2
  · exact absurd rfl h739
set_option maxHeartbeats 4000000 in
theorem lc_never (G : GT) (b L : Nat) (xs : Nat → Int32) (M : Mem) (i : Int) (hL : L ≤ 3072) (h0 : 0 ≤ i) (h1 : i + 6 ≤ L) (hI : Inv M) (kk : ∀ N, Inv N → AW G R_law code 4 ret (XL G b L xs) 1195 [(0, vR 63), (1, vR 0), (2, vR 44), (3, vI i)] [] N) : AW G R_law code 4 ret (XL G b L xs) 744 [(0, vR 63), (1, vR 0), (2, vR 44), (3, vI i)] [] M := by
  refine a_aload_n (kL7.at 26 rfl) 1 rfl ?_
  refine AW.callV (as := []) (st := []) (kL7.at 27 rfl) ml_L_105 sv_X5_never (k := 0) (io_0) rfl rfl ⟨Nat.le_of_ble_eq_true rfl, Nat.le_of_ble_eq_true rfl⟩ ⟨Nat.le_refl _, Nat.le_refl _⟩ rfl rfl (Nat.le_of_ble_eq_true rfl) (a_knever G M hI) (kI fun r N1 hr => ?_)
  obtain ⟨er, c1, f1⟩ := hr; rw [er]
  refine a_aload_n (kL7.at 28 rfl) 2 rfl ?_
  refine AW.callV (as := []) (st := [vI (neverS (find M))]) (kL7.at 29 rfl) ml_L_108 sv_X6_never (k := 44) (io_44) rfl rfl ⟨Nat.le_of_ble_eq_true rfl, Nat.le_of_ble_eq_true rfl⟩ ⟨Nat.le_refl _, Nat.le_refl _⟩ rfl rfl (Nat.le_of_ble_eq_true rfl) (a_cnever G M N1 hI c1 f1) (kI fun r N2 hr => ?_)
  obtain ⟨er, hI2⟩ := hr; rw [er]
  refine a_icmpeq (tgt := 1195) (kL7.at 30 rfl) (by decide) (fun h752 => ?_) (fun h752 => ?_)
  · exact kk N2 hI2
  · exact absurd rfl h752
set_option maxHeartbeats 4000000 in
theorem lc_was (G : GT) (b L : Nat) (xs : Nat → Int32) (M : Mem) (i : Int) (hL : L ≤ 3072) (h0 : 0 ≤ i) (h1 : i + 6 ≤ L) (hI : Inv M) (kk : ∀ N, Inv N → AW G R_law code 4 ret (XL G b L xs) 1195 [(0, vR 63), (1, vR 0), (2, vR 44), (3, vI i)] [] N) : AW G R_law code 4 ret (XL G b L xs) 757 [(0, vR 63), (1, vR 0), (2, vR 44), (3, vI i)] [] M := by
  refine a_aload_n (kL7.at 33 rfl) 1 rfl ?_
  refine a_aload_n (kL7.at 34 rfl) 0 rfl ?_
  refine a_iload_n (kL7.at 35 rfl) 3 rfl ?_
  refine a_iconst (kL7.at 36 rfl) rfl ?_
  refine a_iadd (kL7.at 37 rfl) (inr (by omega)) ?_
  refine a_sld (kL7.at 38 rfl) (by omega) ?_
  refine a_aload_n (kL7.at 39 rfl) 0 rfl ?_
  refine a_iload_n (kL7.at 40 rfl) 3 rfl ?_
  refine a_iconst (kL7.at 41 rfl) rfl ?_
  refine a_iadd (kL7.at 42 rfl) (inr (by omega)) ?_
  refine a_sld (kL7.at 43 rfl) (by omega) ?_
  refine AW.callV (as := [vI (sc xs (i + 1)), vI (sc xs (i + 2))]) (st := []) (kL7.at 44 rfl) ml_L_109 sv_X5_was (k := 0) (io_0) rfl rfl ⟨Nat.le_of_ble_eq_true rfl, Nat.le_of_ble_eq_true rfl⟩ ⟨Nat.le_refl _, Nat.le_refl _⟩ rfl rfl (Nat.le_of_ble_eq_true rfl) (a_kwas G M (sc xs (i + 1)) (sc xs (i + 2)) hI) (kI fun r N1 hr => ?_)
  obtain ⟨er, c1, f1⟩ := hr; rw [er]
  refine a_aload_n (kL7.at 45 rfl) 2 rfl ?_
  refine a_aload_n (kL7.at 46 rfl) 0 rfl ?_
  refine a_iload_n (kL7.at 47 rfl) 3 rfl ?_
  refine a_iconst (kL7.at 48 rfl) rfl ?_
  refine a_iadd (kL7.at 49 rfl) (inr (by omega)) ?_
  refine a_sld (kL7.at 50 rfl) (by omega) ?_
  refine a_aload_n (kL7.at 51 rfl) 0 rfl ?_
  refine a_iload_n (kL7.at 52 rfl) 3 rfl ?_
  refine a_iconst (kL7.at 53 rfl) rfl ?_
  refine a_iadd (kL7.at 54 rfl) (inr (by omega)) ?_
  refine a_sld (kL7.at 55 rfl) (by omega) ?_
  refine AW.callV (as := [vI (sc xs (i + 1)), vI (sc xs (i + 2))]) (st := [vI (o_was M (sc xs (i + 1)) (sc xs (i + 2)))]) (kL7.at 56 rfl) ml_L_112 sv_X6_was (k := 44) (io_44) rfl rfl ⟨Nat.le_of_ble_eq_true rfl, Nat.le_of_ble_eq_true rfl⟩ ⟨Nat.le_refl _, Nat.le_refl _⟩ rfl rfl (Nat.le_of_ble_eq_true rfl) (a_cwas G M N1 (sc xs (i + 1)) (sc xs (i + 2)) hI c1 f1) (kI fun r N2 hr => ?_)
  obtain ⟨er, hI2⟩ := hr; rw [er]
  refine a_icmpeq (tgt := 1195) (kL7.at 57 rfl) (by decide) (fun h785 => ?_) (fun h785 => ?_)
  · exact kk N2 hI2
  · exact absurd rfl h785
set_option maxHeartbeats 4000000 in
theorem lc_ask (G : GT) (b L : Nat) (xs : Nat → Int32) (M : Mem) (i : Int) (hL : L ≤ 3072) (h0 : 0 ≤ i) (h1 : i + 6 ≤ L) (hI : Inv M) (kk : ∀ N, Inv N → AW G R_law code 4 ret (XL G b L xs) 1195 [(0, vR 63), (1, vR 0), (2, vR 44), (3, vI i)] [] N) : AW G R_law code 4 ret (XL G b L xs) 790 [(0, vR 63), (1, vR 0), (2, vR 44), (3, vI i)] [] M := by
  refine a_aload_n (kL8.at 0 rfl) 1 rfl ?_
  refine a_aload_n (kL8.at 1 rfl) 0 rfl ?_
  refine a_iload_n (kL8.at 2 rfl) 3 rfl ?_
  refine a_iconst (kL8.at 3 rfl) rfl ?_
  refine a_iadd (kL8.at 4 rfl) (inr (by omega)) ?_
  refine a_sld (kL8.at 5 rfl) (by omega) ?_
  refine AW.callV (as := [vI (sc xs (i + 1))]) (st := []) (kL8.at 6 rfl) ml_L_113 sv_X5_ask (k := 0) (io_0) rfl rfl ⟨Nat.le_of_ble_eq_true rfl, Nat.le_of_ble_eq_true rfl⟩ ⟨Nat.le_refl _, Nat.le_refl _⟩ rfl rfl (Nat.le_of_ble_eq_true rfl) (a_kask G M (sc xs (i + 1)) hI) (kI fun r N1 hr => ?_)
  obtain ⟨er, c1, f1⟩ := hr; rw [er]
  refine a_aload_n (kL8.at 7 rfl) 2 rfl ?_
  refine a_aload_n (kL8.at 8 rfl) 0 rfl ?_
  refine a_iload_n (kL8.at 9 rfl) 3 rfl ?_
  refine a_iconst (kL8.at 10 rfl) rfl ?_
  refine a_iadd (kL8.at 11 rfl) (inr (by omega)) ?_
  refine a_sld (kL8.at 12 rfl) (by omega) ?_
  refine AW.callV (as := [vI (sc xs (i + 1))]) (st := [vI (o_ask M (sc xs (i + 1)))]) (kL8.at 13 rfl) ml_L_116 sv_X6_ask (k := 44) (io_44) rfl rfl ⟨Nat.le_of_ble_eq_true rfl, Nat.le_of_ble_eq_true rfl⟩ ⟨Nat.le_refl _, Nat.le_refl _⟩ rfl rfl (Nat.le_of_ble_eq_true rfl) (a_cask G M N1 (sc xs (i + 1)) hI c1 f1) (kI fun r N2 hr => ?_)
  obtain ⟨er, hI2⟩ := hr; rw [er]
  refine a_icmpeq (tgt := 1195) (kL8.at 14 rfl) (by decide) (fun h808 => ?_) (fun h808 => ?_)
  · exact kk N2 hI2
  · exact absurd rfl h808
set_option maxHeartbeats 4000000 in
theorem lc_chance (G : GT) (b L : Nat) (xs : Nat → Int32) (M : Mem) (i : Int) (hL : L ≤ 3072) (h0 : 0 ≤ i) (h1 : i + 6 ≤ L) (hI : Inv M) (kk : ∀ N, Inv N → AW G R_law code 4 ret (XL G b L xs) 1195 [(0, vR 63), (1, vR 0), (2, vR 44), (3, vI i)] [] N) : AW G R_law code 4 ret (XL G b L xs) 813 [(0, vR 63), (1, vR 0), (2, vR 44), (3, vI i)] [] M := by
  refine a_aload_n (kL8.at 17 rfl) 1 rfl ?_
  refine a_aload_n (kL8.at 18 rfl) 0 rfl ?_
  refine a_iload_n (kL8.at 19 rfl) 3 rfl ?_
  refine a_iconst (kL8.at 20 rfl) rfl ?_
  refine a_iadd (kL8.at 21 rfl) (inr (by omega)) ?_
  refine a_sld (kL8.at 22 rfl) (by omega) ?_
  refine a_aload_n (kL8.at 23 rfl) 0 rfl ?_
  refine a_iload_n (kL8.at 24 rfl) 3 rfl ?_
  refine a_iconst (kL8.at 25 rfl) rfl ?_
  refine a_iadd (kL8.at 26 rfl) (inr (by omega)) ?_
  refine a_sld (kL8.at 27 rfl) (by omega) ?_
  refine a_aload_n (kL8.at 28 rfl) 0 rfl ?_
  refine a_iload_n (kL8.at 29 rfl) 3 rfl ?_
  refine a_iconst (kL8.at 30 rfl) rfl ?_
  refine a_iadd (kL8.at 31 rfl) (inr (by omega)) ?_
  refine a_sld (kL8.at 32 rfl) (by omega) ?_
  refine AW.callV (as := [vI (sc xs (i + 1)), vI (sc xs (i + 2)), vI (sc xs (i + 3))]) (st := []) (kL8.at 33 rfl) ml_L_117 sv_X5_chance (k := 0) (io_0) rfl rfl ⟨Nat.le_of_ble_eq_true rfl, Nat.le_of_ble_eq_true rfl⟩ ⟨Nat.le_refl _, Nat.le_refl _⟩ rfl rfl (Nat.le_of_ble_eq_true rfl) (a_kchance G M (sc xs (i + 1)) (sc xs (i + 2)) (sc xs (i + 3)) hI) (kL fun r N1 hr => ?_)
  obtain ⟨er, c1, f1⟩ := hr; rw [er]
  refine a_aload_n (kL8.at 34 rfl) 2 rfl ?_
  refine a_aload_n (kL8.at 35 rfl) 0 rfl ?_
  refine a_iload_n (kL8.at 36 rfl) 3 rfl ?_
  refine a_iconst (kL8.at 37 rfl) rfl ?_
  refine a_iadd (kL8.at 38 rfl) (inr (by omega)) ?_
  refine a_sld (kL8.at 39 rfl) (by omega) ?_
  refine a_aload_n (kL8.at 40 rfl) 0 rfl ?_
  refine a_iload_n (kL8.at 41 rfl) 3 rfl ?_
  refine a_iconst (kL8.at 42 rfl) rfl ?_
  refine a_iadd (kL8.at 43 rfl) (inr (by omega)) ?_
  refine a_sld (kL8.at 44 rfl) (by omega) ?_
  refine a_aload_n (kL8.at 45 rfl) 0 rfl ?_
  refine a_iload_n (kL8.at 46 rfl) 3 rfl ?_
  refine a_iconst (kL8.at 47 rfl) rfl ?_
  refine a_iadd (kL8.at 48 rfl) (inr (by omega)) ?_
  refine a_sld (kL8.at 49 rfl) (by omega) ?_
  refine AW.callV (as := [vI (sc xs (i + 1)), vI (sc xs (i + 2)), vI (sc xs (i + 3))]) (st := [vL (o_chance M (sc xs (i + 1)) (sc xs (i + 2)) (sc xs (i + 3)))]) (kL8.at 50 rfl) ml_L_121 sv_X6_chance (k := 44) (io_44) rfl rfl ⟨Nat.le_of_ble_eq_true rfl, Nat.le_of_ble_eq_true rfl⟩ ⟨Nat.le_refl _, Nat.le_refl _⟩ rfl rfl (Nat.le_of_ble_eq_true rfl) (a_cchance G M N1 (sc xs (i + 1)) (sc xs (i + 2)) (sc xs (i + 3)) hI c1 f1) (kL fun r N2 hr => ?_)
  obtain ⟨er, hI2⟩ := hr; rw [er]
  refine a_lcmp (kL8.at 51 rfl) ?_
  refine a_ifeq (tgt := 1195) (kL8.at 52 rfl) (by decide) (fun h852 => ?_) (fun h852 => ?_)
  · rw [cmpI_eq] at h852
    exact kk N2 hI2
  · rw [cmpI_eq] at h852
    exact absurd rfl h852
set_option maxHeartbeats 4000000 in
theorem lc_decades (G : GT) (b L : Nat) (xs : Nat → Int32) (M : Mem) (i : Int) (hL : L ≤ 3072) (h0 : 0 ≤ i) (h1 : i + 6 ≤ L) (hI : Inv M) (kk : ∀ N, Inv N → AW G R_law code 4 ret (XL G b L xs) 1195 [(0, vR 63), (1, vR 0), (2, vR 44), (3, vI i)] [] N) : AW G R_law code 4 ret (XL G b L xs) 857 [(0, vR 63), (1, vR 0), (2, vR 44), (3, vI i)] [] M := by
  refine a_aload_n (kL8.at 55 rfl) 1 rfl ?_
  refine a_aload_n (kL8.at 56 rfl) 0 rfl ?_
  refine a_iload_n (kL8.at 57 rfl) 3 rfl ?_
  refine a_iconst (kL8.at 58 rfl) rfl ?_
  refine a_iadd (kL8.at 59 rfl) (inr (by omega)) ?_
  refine a_sld (kL9.at 0 rfl) (by omega) ?_
  refine a_aload_n (kL9.at 1 rfl) 0 rfl ?_
  refine a_iload_n (kL9.at 2 rfl) 3 rfl ?_
  refine a_iconst (kL9.at 3 rfl) rfl ?_
  refine a_iadd (kL9.at 4 rfl) (inr (by omega)) ?_
  refine a_sld (kL9.at 5 rfl) (by omega) ?_
  refine a_aload_n (kL9.at 6 rfl) 0 rfl ?_
  refine a_iload_n (kL9.at 7 rfl) 3 rfl ?_
  refine a_iconst (kL9.at 8 rfl) rfl ?_
  refine a_iadd (kL9.at 9 rfl) (inr (by omega)) ?_
  refine a_sld (kL9.at 10 rfl) (by omega) ?_
  refine AW.callV (as := [vI (sc xs (i + 1)), vI (sc xs (i + 2)), vI (sc xs (i + 3))]) (st := []) (kL9.at 11 rfl) ml_L_122 sv_X5_decades (k := 0) (io_0) rfl rfl ⟨Nat.le_of_ble_eq_true rfl, Nat.le_of_ble_eq_true rfl⟩ ⟨Nat.le_refl _, Nat.le_refl _⟩ rfl rfl (Nat.le_of_ble_eq_true rfl) (a_kdecades G M (sc xs (i + 1)) (sc xs (i + 2)) (sc xs (i + 3)) hI) (kI fun r N1 hr => ?_)
  obtain ⟨er, c1, f1⟩ := hr; rw [er]
  refine a_aload_n (kL9.at 12 rfl) 2 rfl ?_
  refine a_aload_n (kL9.at 13 rfl) 0 rfl ?_
  refine a_iload_n (kL9.at 14 rfl) 3 rfl ?_
  refine a_iconst (kL9.at 15 rfl) rfl ?_
  refine a_iadd (kL9.at 16 rfl) (inr (by omega)) ?_
  refine a_sld (kL9.at 17 rfl) (by omega) ?_
  refine a_aload_n (kL9.at 18 rfl) 0 rfl ?_
  refine a_iload_n (kL9.at 19 rfl) 3 rfl ?_
  refine a_iconst (kL9.at 20 rfl) rfl ?_
  refine a_iadd (kL9.at 21 rfl) (inr (by omega)) ?_
  refine a_sld (kL9.at 22 rfl) (by omega) ?_
  refine a_aload_n (kL9.at 23 rfl) 0 rfl ?_
  refine a_iload_n (kL9.at 24 rfl) 3 rfl ?_
  refine a_iconst (kL9.at 25 rfl) rfl ?_
  refine a_iadd (kL9.at 26 rfl) (inr (by omega)) ?_
  refine a_sld (kL9.at 27 rfl) (by omega) ?_
  refine AW.callV (as := [vI (sc xs (i + 1)), vI (sc xs (i + 2)), vI (sc xs (i + 3))]) (st := [vI (o_decades M (sc xs (i + 1)) (sc xs (i + 2)) (sc xs (i + 3)))]) (kL9.at 28 rfl) ml_L_125 sv_X6_decades (k := 44) (io_44) rfl rfl ⟨Nat.le_of_ble_eq_true rfl, Nat.le_of_ble_eq_true rfl⟩ ⟨Nat.le_refl _, Nat.le_refl _⟩ rfl rfl (Nat.le_of_ble_eq_true rfl) (a_cdecades G M N1 (sc xs (i + 1)) (sc xs (i + 2)) (sc xs (i + 3)) hI c1 f1) (kI fun r N2 hr => ?_)
  obtain ⟨er, hI2⟩ := hr; rw [er]
  refine a_icmpeq (tgt := 1195) (kL9.at 29 rfl) (by decide) (fun h895 => ?_) (fun h895 => ?_)
  · exact kk N2 hI2
  · exact absurd rfl h895
set_option maxHeartbeats 4000000 in
theorem lc_sheet (G : GT) (b L : Nat) (xs : Nat → Int32) (M : Mem) (i : Int) (hL : L ≤ 3072) (h0 : 0 ≤ i) (h1 : i + 6 ≤ L) (hI : Inv M) (kk : ∀ N, Inv N → AW G R_law code 4 ret (XL G b L xs) 1195 [(0, vR 63), (1, vR 0), (2, vR 44), (3, vI i)] [] N) : AW G R_law code 4 ret (XL G b L xs) 900 [(0, vR 63), (1, vR 0), (2, vR 44), (3, vI i)] [] M := by
  refine a_aload_n (kL9.at 32 rfl) 1 rfl ?_
  refine a_aload_n (kL9.at 33 rfl) 0 rfl ?_
  refine a_iload_n (kL9.at 34 rfl) 3 rfl ?_
  refine a_iconst (kL9.at 35 rfl) rfl ?_
  refine a_iadd (kL9.at 36 rfl) (inr (by omega)) ?_
  refine a_sld (kL9.at 37 rfl) (by omega) ?_
  refine a_aload_n (kL9.at 38 rfl) 0 rfl ?_
  refine a_iload_n (kL9.at 39 rfl) 3 rfl ?_
  refine a_iconst (kL9.at 40 rfl) rfl ?_
  refine a_iadd (kL9.at 41 rfl) (inr (by omega)) ?_
  refine a_sld (kL9.at 42 rfl) (by omega) ?_
  refine a_aload_n (kL9.at 43 rfl) 0 rfl ?_
  refine a_iload_n (kL9.at 44 rfl) 3 rfl ?_
  refine a_iconst (kL9.at 45 rfl) rfl ?_
  refine a_iadd (kL9.at 46 rfl) (inr (by omega)) ?_
  refine a_sld (kL9.at 47 rfl) (by omega) ?_
  refine AW.callV (as := [vI (sc xs (i + 1)), vI (sc xs (i + 2)), vI (sc xs (i + 3))]) (st := []) (kL9.at 48 rfl) ml_L_126 sv_X5_sheet (k := 0) (io_0) rfl rfl ⟨Nat.le_of_ble_eq_true rfl, Nat.le_of_ble_eq_true rfl⟩ ⟨Nat.le_refl _, Nat.le_refl _⟩ rfl rfl (Nat.le_of_ble_eq_true rfl) (a_ksheet G M (sc xs (i + 1)) (sc xs (i + 2)) (sc xs (i + 3)) hI) (kI fun r N1 hr => ?_)
  obtain ⟨er, c1, f1⟩ := hr; rw [er]
  refine a_aload_n (kL9.at 49 rfl) 2 rfl ?_
  refine a_aload_n (kL9.at 50 rfl) 0 rfl ?_
  refine a_iload_n (kL9.at 51 rfl) 3 rfl ?_
  refine a_iconst (kL9.at 52 rfl) rfl ?_
  refine a_iadd (kL9.at 53 rfl) (inr (by omega)) ?_
  refine a_sld (kL9.at 54 rfl) (by omega) ?_
  refine a_aload_n (kL9.at 55 rfl) 0 rfl ?_
  refine a_iload_n (kL9.at 56 rfl) 3 rfl ?_
  refine a_iconst (kL9.at 57 rfl) rfl ?_
  refine a_iadd (kL9.at 58 rfl) (inr (by omega)) ?_
  refine a_sld (kL9.at 59 rfl) (by omega) ?_
  refine a_aload_n (kL10.at 0 rfl) 0 rfl ?_
  refine a_iload_n (kL10.at 1 rfl) 3 rfl ?_
  refine a_iconst (kL10.at 2 rfl) rfl ?_
  refine a_iadd (kL10.at 3 rfl) (inr (by omega)) ?_
  refine a_sld (kL10.at 4 rfl) (by omega) ?_
  refine AW.callV (as := [vI (sc xs (i + 1)), vI (sc xs (i + 2)), vI (sc xs (i + 3))]) (st := [vI ((o_sheet M (sc xs (i + 1)) (sc xs (i + 2)) (sc xs (i + 3))).1)]) (kL10.at 5 rfl) ml_L_129 sv_X6_sheet (k := 44) (io_44) rfl rfl ⟨Nat.le_of_ble_eq_true rfl, Nat.le_of_ble_eq_true rfl⟩ ⟨Nat.le_refl _, Nat.le_refl _⟩ rfl rfl (Nat.le_of_ble_eq_true rfl) (a_csheet G M N1 (sc xs (i + 1)) (sc xs (i + 2)) (sc xs (i + 3)) hI c1 f1) (kI fun r N2 hr => ?_)
  obtain ⟨er, hI2⟩ := hr; rw [er]
  refine a_icmpeq (tgt := 1195) (kL10.at 6 rfl) (by decide) (fun h938 => ?_) (fun h938 => ?_)
  · exact kk N2 hI2
  · exact absurd rfl h938
set_option maxHeartbeats 4000000 in
theorem lc_lose (G : GT) (b L : Nat) (xs : Nat → Int32) (M : Mem) (i : Int) (hL : L ≤ 3072) (h0 : 0 ≤ i) (h1 : i + 6 ≤ L) (hI : Inv M) (kk : ∀ N, Inv N → AW G R_law code 4 ret (XL G b L xs) 1195 [(0, vR 63), (1, vR 0), (2, vR 44), (3, vI i)] [] N) : AW G R_law code 4 ret (XL G b L xs) 943 [(0, vR 63), (1, vR 0), (2, vR 44), (3, vI i)] [] M := by
  refine a_aload_n (kL10.at 9 rfl) 1 rfl ?_
  refine a_aload_n (kL10.at 10 rfl) 0 rfl ?_
  refine a_iload_n (kL10.at 11 rfl) 3 rfl ?_
  refine a_iconst (kL10.at 12 rfl) rfl ?_
  refine a_iadd (kL10.at 13 rfl) (inr (by omega)) ?_
  refine a_sld (kL10.at 14 rfl) (by omega) ?_
  refine AW.callV (as := [vI (sc xs (i + 1))]) (st := []) (kL10.at 15 rfl) ml_L_130 sv_X5_lose (k := 0) (io_0) rfl rfl ⟨Nat.le_of_ble_eq_true rfl, Nat.le_of_ble_eq_true rfl⟩ ⟨Nat.le_refl _, Nat.le_refl _⟩ rfl rfl (Nat.le_of_ble_eq_true rfl) (a_klose G M (sc xs (i + 1)) hI) (kI fun r N1 hr => ?_)
  obtain ⟨er, c1, f1⟩ := hr; rw [er]
  refine a_aload_n (kL10.at 16 rfl) 2 rfl ?_
  refine a_aload_n (kL10.at 17 rfl) 0 rfl ?_
  refine a_iload_n (kL10.at 18 rfl) 3 rfl ?_
  refine a_iconst (kL10.at 19 rfl) rfl ?_
  refine a_iadd (kL10.at 20 rfl) (inr (by omega)) ?_
  refine a_sld (kL10.at 21 rfl) (by omega) ?_
  refine AW.callV (as := [vI (sc xs (i + 1))]) (st := [vI ((o_lose M (sc xs (i + 1))).1)]) (kL10.at 22 rfl) ml_L_133 sv_X6_lose (k := 44) (io_44) rfl rfl ⟨Nat.le_of_ble_eq_true rfl, Nat.le_of_ble_eq_true rfl⟩ ⟨Nat.le_refl _, Nat.le_refl _⟩ rfl rfl (Nat.le_of_ble_eq_true rfl) (a_close G M N1 (sc xs (i + 1)) hI c1 f1) (kI fun r N2 hr => ?_)
  obtain ⟨er, hI2⟩ := hr; rw [er]
  refine a_icmpeq (tgt := 1195) (kL10.at 23 rfl) (by decide) (fun h961 => ?_) (fun h961 => ?_)
  · exact kk N2 hI2
  · exact absurd rfl h961
set_option maxHeartbeats 4000000 in
theorem lc_lay (G : GT) (b L : Nat) (xs : Nat → Int32) (M : Mem) (i : Int) (hL : L ≤ 3072) (h0 : 0 ≤ i) (h1 : i + 6 ≤ L) (hI : Inv M) (kk : ∀ N, Inv N → AW G R_law code 4 ret (XL G b L xs) 1195 [(0, vR 63), (1, vR 0), (2, vR 44), (3, vI i)] [] N) : AW G R_law code 4 ret (XL G b L xs) 966 [(0, vR 63), (1, vR 0), (2, vR 44), (3, vI i)] [] M := by
  refine a_aload_n (kL10.at 26 rfl) 1 rfl ?_
  refine a_aload_n (kL10.at 27 rfl) 0 rfl ?_
  refine a_iload_n (kL10.at 28 rfl) 3 rfl ?_
  refine a_iconst (kL10.at 29 rfl) rfl ?_
  refine a_iadd (kL10.at 30 rfl) (inr (by omega)) ?_
  refine a_sld (kL10.at 31 rfl) (by omega) ?_
  refine a_aload_n (kL10.at 32 rfl) 0 rfl ?_
  refine a_iload_n (kL10.at 33 rfl) 3 rfl ?_
  refine a_iconst (kL10.at 34 rfl) rfl ?_
  refine a_iadd (kL10.at 35 rfl) (inr (by omega)) ?_
  refine a_sld (kL10.at 36 rfl) (by omega) ?_
  refine a_aload_n (kL10.at 37 rfl) 0 rfl ?_
  refine a_iload_n (kL10.at 38 rfl) 3 rfl ?_
  refine a_iconst (kL10.at 39 rfl) rfl ?_
  refine a_iadd (kL10.at 40 rfl) (inr (by omega)) ?_
  refine a_sld (kL10.at 41 rfl) (by omega) ?_
  refine a_aload_n (kL10.at 42 rfl) 0 rfl ?_
  refine a_iload_n (kL10.at 43 rfl) 3 rfl ?_
  refine a_iconst (kL10.at 44 rfl) rfl ?_
  refine a_iadd (kL10.at 45 rfl) (inr (by omega)) ?_
  refine a_sld (kL10.at 46 rfl) (by omega) ?_
  refine AW.callV (as := [vI (sc xs (i + 1)), vI (sc xs (i + 2)), vI (sc xs (i + 3)), vI (sc xs (i + 4))]) (st := []) (kL10.at 47 rfl) ml_L_134 sv_X5_lay (k := 0) (io_0) rfl rfl ⟨Nat.le_of_ble_eq_true rfl, Nat.le_of_ble_eq_true rfl⟩ ⟨Nat.le_refl _, Nat.le_refl _⟩ rfl rfl (Nat.le_of_ble_eq_true rfl) (a_klay G M (sc xs (i + 1)) (sc xs (i + 2)) (sc xs (i + 3)) (sc xs (i + 4)) hI) (kI fun r N1 hr => ?_)
  obtain ⟨er, c1, f1⟩ := hr; rw [er]
  refine a_aload_n (kL10.at 48 rfl) 2 rfl ?_
  refine a_aload_n (kL10.at 49 rfl) 0 rfl ?_
  refine a_iload_n (kL10.at 50 rfl) 3 rfl ?_
  refine a_iconst (kL10.at 51 rfl) rfl ?_
  refine a_iadd (kL10.at 52 rfl) (inr (by omega)) ?_
  refine a_sld (kL10.at 53 rfl) (by omega) ?_
  refine a_aload_n (kL10.at 54 rfl) 0 rfl ?_
  refine a_iload_n (kL10.at 55 rfl) 3 rfl ?_
  refine a_iconst (kL10.at 56 rfl) rfl ?_
  refine a_iadd (kL10.at 57 rfl) (inr (by omega)) ?_
  refine a_sld (kL10.at 58 rfl) (by omega) ?_
  refine a_aload_n (kL10.at 59 rfl) 0 rfl ?_
  refine a_iload_n (kL11.at 0 rfl) 3 rfl ?_
  refine a_iconst (kL11.at 1 rfl) rfl ?_
  refine a_iadd (kL11.at 2 rfl) (inr (by omega)) ?_
  refine a_sld (kL11.at 3 rfl) (by omega) ?_
  refine a_aload_n (kL11.at 4 rfl) 0 rfl ?_
  refine a_iload_n (kL11.at 5 rfl) 3 rfl ?_
  refine a_iconst (kL11.at 6 rfl) rfl ?_
  refine a_iadd (kL11.at 7 rfl) (inr (by omega)) ?_
  refine a_sld (kL11.at 8 rfl) (by omega) ?_
  refine AW.callV (as := [vI (sc xs (i + 1)), vI (sc xs (i + 2)), vI (sc xs (i + 3)), vI (sc xs (i + 4))]) (st := [vI ((o_lay M (sc xs (i + 1)) (sc xs (i + 2)) (sc xs (i + 3)) (sc xs (i + 4))).1)]) (kL11.at 9 rfl) ml_L_138 sv_X6_lay (k := 44) (io_44) rfl rfl ⟨Nat.le_of_ble_eq_true rfl, Nat.le_of_ble_eq_true rfl⟩ ⟨Nat.le_refl _, Nat.le_refl _⟩ rfl rfl (Nat.le_of_ble_eq_true rfl) (a_clay G M N1 (sc xs (i + 1)) (sc xs (i + 2)) (sc xs (i + 3)) (sc xs (i + 4)) hI c1 f1) (kI fun r N2 hr => ?_)
  obtain ⟨er, hI2⟩ := hr; rw [er]
  refine a_icmpeq (tgt := 1195) (kL11.at 10 rfl) (by decide) (fun h1014 => ?_) (fun h1014 => ?_)
  · exact kk N2 hI2
  · exact absurd rfl h1014
set_option maxHeartbeats 4000000 in
theorem lc_get (G : GT) (b L : Nat) (xs : Nat → Int32) (M : Mem) (i : Int) (hL : L ≤ 3072) (h0 : 0 ≤ i) (h1 : i + 6 ≤ L) (hI : Inv M) (kk : ∀ N, Inv N → AW G R_law code 4 ret (XL G b L xs) 1195 [(0, vR 63), (1, vR 0), (2, vR 44), (3, vI i)] [] N) : AW G R_law code 4 ret (XL G b L xs) 1019 [(0, vR 63), (1, vR 0), (2, vR 44), (3, vI i)] [] M := by
  refine a_aload_n (kL11.at 13 rfl) 1 rfl ?_
  refine a_aload_n (kL11.at 14 rfl) 0 rfl ?_
  refine a_iload_n (kL11.at 15 rfl) 3 rfl ?_
  refine a_iconst (kL11.at 16 rfl) rfl ?_
  refine a_iadd (kL11.at 17 rfl) (inr (by omega)) ?_
  refine a_sld (kL11.at 18 rfl) (by omega) ?_
  refine a_aload_n (kL11.at 19 rfl) 0 rfl ?_
  refine a_iload_n (kL11.at 20 rfl) 3 rfl ?_
  refine a_iconst (kL11.at 21 rfl) rfl ?_
  refine a_iadd (kL11.at 22 rfl) (inr (by omega)) ?_
  refine a_sld (kL11.at 23 rfl) (by omega) ?_
  refine a_aload_n (kL11.at 24 rfl) 0 rfl ?_
  refine a_iload_n (kL11.at 25 rfl) 3 rfl ?_
  refine a_iconst (kL11.at 26 rfl) rfl ?_
  refine a_iadd (kL11.at 27 rfl) (inr (by omega)) ?_
  refine a_sld (kL11.at 28 rfl) (by omega) ?_
  refine AW.callV (as := [vI (sc xs (i + 1)), vI (sc xs (i + 2)), vI (sc xs (i + 3))]) (st := []) (kL11.at 29 rfl) ml_L_139 sv_X5_get (k := 0) (io_0) rfl rfl ⟨Nat.le_of_ble_eq_true rfl, Nat.le_of_ble_eq_true rfl⟩ ⟨Nat.le_refl _, Nat.le_refl _⟩ rfl rfl (Nat.le_of_ble_eq_true rfl) (a_kget G M (sc xs (i + 1)) (sc xs (i + 2)) (sc xs (i + 3)) hI) (kI fun r N1 hr => ?_)
  obtain ⟨er, c1, f1⟩ := hr; rw [er]
  refine a_aload_n (kL11.at 30 rfl) 2 rfl ?_
  refine a_aload_n (kL11.at 31 rfl) 0 rfl ?_
  refine a_iload_n (kL11.at 32 rfl) 3 rfl ?_
  refine a_iconst (kL11.at 33 rfl) rfl ?_
  refine a_iadd (kL11.at 34 rfl) (inr (by omega)) ?_
  refine a_sld (kL11.at 35 rfl) (by omega) ?_
  refine a_aload_n (kL11.at 36 rfl) 0 rfl ?_
  refine a_iload_n (kL11.at 37 rfl) 3 rfl ?_
  refine a_iconst (kL11.at 38 rfl) rfl ?_
  refine a_iadd (kL11.at 39 rfl) (inr (by omega)) ?_
  refine a_sld (kL11.at 40 rfl) (by omega) ?_
  refine a_aload_n (kL11.at 41 rfl) 0 rfl ?_
  refine a_iload_n (kL11.at 42 rfl) 3 rfl ?_
  refine a_iconst (kL11.at 43 rfl) rfl ?_
  refine a_iadd (kL11.at 44 rfl) (inr (by omega)) ?_
  refine a_sld (kL11.at 45 rfl) (by omega) ?_
  refine AW.callV (as := [vI (sc xs (i + 1)), vI (sc xs (i + 2)), vI (sc xs (i + 3))]) (st := [vI ((o_get M (sc xs (i + 1)) (sc xs (i + 2)) (sc xs (i + 3))).1)]) (kL11.at 46 rfl) ml_L_142 sv_X6_get (k := 44) (io_44) rfl rfl ⟨Nat.le_of_ble_eq_true rfl, Nat.le_of_ble_eq_true rfl⟩ ⟨Nat.le_refl _, Nat.le_refl _⟩ rfl rfl (Nat.le_of_ble_eq_true rfl) (a_cget G M N1 (sc xs (i + 1)) (sc xs (i + 2)) (sc xs (i + 3)) hI c1 f1) (kI fun r N2 hr => ?_)
  obtain ⟨er, hI2⟩ := hr; rw [er]
  refine a_icmpeq (tgt := 1195) (kL11.at 47 rfl) (by decide) (fun h1057 => ?_) (fun h1057 => ?_)
  · exact kk N2 hI2
  · exact absurd rfl h1057
set_option maxHeartbeats 4000000 in
theorem lc_copy (G : GT) (b L : Nat) (xs : Nat → Int32) (M : Mem) (i : Int) (hL : L ≤ 3072) (h0 : 0 ≤ i) (h1 : i + 6 ≤ L) (hI : Inv M) (kk : ∀ N, Inv N → AW G R_law code 4 ret (XL G b L xs) 1195 [(0, vR 63), (1, vR 0), (2, vR 44), (3, vI i)] [] N) : AW G R_law code 4 ret (XL G b L xs) 1062 [(0, vR 63), (1, vR 0), (2, vR 44), (3, vI i)] [] M := by
  refine a_aload_n (kL11.at 50 rfl) 1 rfl ?_
  refine a_aload_n (kL11.at 51 rfl) 0 rfl ?_
  refine a_iload_n (kL11.at 52 rfl) 3 rfl ?_
  refine a_iconst (kL11.at 53 rfl) rfl ?_
  refine a_iadd (kL11.at 54 rfl) (inr (by omega)) ?_
  refine a_sld (kL11.at 55 rfl) (by omega) ?_
  refine a_aload_n (kL11.at 56 rfl) 0 rfl ?_
  refine a_iload_n (kL11.at 57 rfl) 3 rfl ?_
  refine a_iconst (kL11.at 58 rfl) rfl ?_
  refine a_iadd (kL11.at 59 rfl) (inr (by omega)) ?_
  refine a_sld (kL12.at 0 rfl) (by omega) ?_
  refine a_aload_n (kL12.at 1 rfl) 0 rfl ?_
  refine a_iload_n (kL12.at 2 rfl) 3 rfl ?_
  refine a_iconst (kL12.at 3 rfl) rfl ?_
  refine a_iadd (kL12.at 4 rfl) (inr (by omega)) ?_
  refine a_sld (kL12.at 5 rfl) (by omega) ?_
  refine a_aload_n (kL12.at 6 rfl) 0 rfl ?_
  refine a_iload_n (kL12.at 7 rfl) 3 rfl ?_
  refine a_iconst (kL12.at 8 rfl) rfl ?_
  refine a_iadd (kL12.at 9 rfl) (inr (by omega)) ?_
  refine a_sld (kL12.at 10 rfl) (by omega) ?_
  refine a_aload_n (kL12.at 11 rfl) 0 rfl ?_
  refine a_iload_n (kL12.at 12 rfl) 3 rfl ?_
  refine a_iconst (kL12.at 13 rfl) rfl ?_
  refine a_iadd (kL12.at 14 rfl) (inr (by omega)) ?_
  refine a_sld (kL12.at 15 rfl) (by omega) ?_
  refine AW.callV (as := [vI (sc xs (i + 1)), vI (sc xs (i + 2)), vI (sc xs (i + 3)), vI (sc xs (i + 4)), vI (sc xs (i + 5))]) (st := []) (kL12.at 16 rfl) ml_L_143 sv_X5_copy (k := 0) (io_0) rfl rfl ⟨Nat.le_of_ble_eq_true rfl, Nat.le_of_ble_eq_true rfl⟩ ⟨Nat.le_refl _, Nat.le_refl _⟩ rfl rfl (Nat.le_of_ble_eq_true rfl) (a_kcopy G M (sc xs (i + 1)) (sc xs (i + 2)) (sc xs (i + 3)) (sc xs (i + 4)) (sc xs (i + 5)) hI) (kI fun r N1 hr => ?_)
  obtain ⟨er, c1, f1⟩ := hr; rw [er]
  refine a_aload_n (kL12.at 17 rfl) 2 rfl ?_
  refine a_aload_n (kL12.at 18 rfl) 0 rfl ?_
  refine a_iload_n (kL12.at 19 rfl) 3 rfl ?_
  refine a_iconst (kL12.at 20 rfl) rfl ?_
  refine a_iadd (kL12.at 21 rfl) (inr (by omega)) ?_
  refine a_sld (kL12.at 22 rfl) (by omega) ?_
  refine a_aload_n (kL12.at 23 rfl) 0 rfl ?_
  refine a_iload_n (kL12.at 24 rfl) 3 rfl ?_
  refine a_iconst (kL12.at 25 rfl) rfl ?_
  refine a_iadd (kL12.at 26 rfl) (inr (by omega)) ?_
  refine a_sld (kL12.at 27 rfl) (by omega) ?_
  refine a_aload_n (kL12.at 28 rfl) 0 rfl ?_
  refine a_iload_n (kL12.at 29 rfl) 3 rfl ?_
  refine a_iconst (kL12.at 30 rfl) rfl ?_
  refine a_iadd (kL12.at 31 rfl) (inr (by omega)) ?_
  refine a_sld (kL12.at 32 rfl) (by omega) ?_
  refine a_aload_n (kL12.at 33 rfl) 0 rfl ?_
  refine a_iload_n (kL12.at 34 rfl) 3 rfl ?_
  refine a_iconst (kL12.at 35 rfl) rfl ?_
  refine a_iadd (kL12.at 36 rfl) (inr (by omega)) ?_
  refine a_sld (kL12.at 37 rfl) (by omega) ?_
  refine a_aload_n (kL12.at 38 rfl) 0 rfl ?_
  refine a_iload_n (kL12.at 39 rfl) 3 rfl ?_
  refine a_iconst (kL12.at 40 rfl) rfl ?_
  refine a_iadd (kL12.at 41 rfl) (inr (by omega)) ?_
  refine a_sld (kL12.at 42 rfl) (by omega) ?_
  refine AW.callV (as := [vI (sc xs (i + 1)), vI (sc xs (i + 2)), vI (sc xs (i + 3)), vI (sc xs (i + 4)), vI (sc xs (i + 5))]) (st := [vI ((o_copy M (sc xs (i + 1)) (sc xs (i + 2)) (sc xs (i + 3)) (sc xs (i + 4)) (sc xs (i + 5))).1)]) (kL12.at 43 rfl) ml_L_147 sv_X6_copy (k := 44) (io_44) rfl rfl ⟨Nat.le_of_ble_eq_true rfl, Nat.le_of_ble_eq_true rfl⟩ ⟨Nat.le_refl _, Nat.le_refl _⟩ rfl rfl (Nat.le_of_ble_eq_true rfl) (a_ccopy G M N1 (sc xs (i + 1)) (sc xs (i + 2)) (sc xs (i + 3)) (sc xs (i + 4)) (sc xs (i + 5)) hI c1 f1) (kI fun r N2 hr => ?_)
  obtain ⟨er, hI2⟩ := hr; rw [er]
  refine a_icmpeq (tgt := 1195) (kL12.at 44 rfl) (by decide) (fun h1120 => ?_) (fun h1120 => ?_)
  · exact kk N2 hI2
  · exact absurd rfl h1120
set_option maxHeartbeats 4000000 in
theorem lc_write (G : GT) (b L : Nat) (xs : Nat → Int32) (M : Mem) (i : Int) (hL : L ≤ 3072) (h0 : 0 ≤ i) (h1 : i + 6 ≤ L) (hI : Inv M) (kk : ∀ N, Inv N → AW G R_law code 4 ret (XL G b L xs) 1195 [(0, vR 63), (1, vR 0), (2, vR 44), (3, vI i)] [] N) : AW G R_law code 4 ret (XL G b L xs) 1125 [(0, vR 63), (1, vR 0), (2, vR 44), (3, vI i)] [] M := by
  refine a_aload_n (kL12.at 47 rfl) 1 rfl ?_
  refine a_aload_n (kL12.at 48 rfl) 0 rfl ?_
  refine a_iload_n (kL12.at 49 rfl) 3 rfl ?_
  refine a_iconst (kL12.at 50 rfl) rfl ?_
  refine a_iadd (kL12.at 51 rfl) (inr (by omega)) ?_
  refine a_sld (kL12.at 52 rfl) (by omega) ?_
  refine a_aload_n (kL12.at 53 rfl) 0 rfl ?_
  refine a_iload_n (kL12.at 54 rfl) 3 rfl ?_
  refine a_iconst (kL12.at 55 rfl) rfl ?_
  refine a_iadd (kL12.at 56 rfl) (inr (by omega)) ?_
  refine a_sld (kL12.at 57 rfl) (by omega) ?_
  refine AW.callV (as := [vI (sc xs (i + 1)), vI (sc xs (i + 2))]) (st := []) (kL12.at 58 rfl) ml_L_148 sv_X5_write (k := 0) (io_0) rfl rfl ⟨Nat.le_of_ble_eq_true rfl, Nat.le_of_ble_eq_true rfl⟩ ⟨Nat.le_refl _, Nat.le_refl _⟩ rfl rfl (Nat.le_of_ble_eq_true rfl) (a_kwrite G M (sc xs (i + 1)) (sc xs (i + 2)) hI) (kI fun r N1 hr => ?_)
  obtain ⟨er, c1, f1⟩ := hr; rw [er]
  refine a_aload_n (kL12.at 59 rfl) 2 rfl ?_
  refine a_aload_n (kL13.at 0 rfl) 0 rfl ?_
  refine a_iload_n (kL13.at 1 rfl) 3 rfl ?_
  refine a_iconst (kL13.at 2 rfl) rfl ?_
  refine a_iadd (kL13.at 3 rfl) (inr (by omega)) ?_
  refine a_sld (kL13.at 4 rfl) (by omega) ?_
  refine a_aload_n (kL13.at 5 rfl) 0 rfl ?_
  refine a_iload_n (kL13.at 6 rfl) 3 rfl ?_
  refine a_iconst (kL13.at 7 rfl) rfl ?_
  refine a_iadd (kL13.at 8 rfl) (inr (by omega)) ?_
  refine a_sld (kL13.at 9 rfl) (by omega) ?_
  refine AW.callV (as := [vI (sc xs (i + 1)), vI (sc xs (i + 2))]) (st := [vI ((o_write M (sc xs (i + 1)) (sc xs (i + 2))).1)]) (kL13.at 10 rfl) ml_L_151 sv_X6_write (k := 44) (io_44) rfl rfl ⟨Nat.le_of_ble_eq_true rfl, Nat.le_of_ble_eq_true rfl⟩ ⟨Nat.le_refl _, Nat.le_refl _⟩ rfl rfl (Nat.le_of_ble_eq_true rfl) (a_cwrite G M N1 (sc xs (i + 1)) (sc xs (i + 2)) hI c1 f1) (kI fun r N2 hr => ?_)
  obtain ⟨er, hI2⟩ := hr; rw [er]
  refine a_icmpeq (tgt := 1195) (kL13.at 11 rfl) (by decide) (fun h1153 => ?_) (fun h1153 => ?_)
  · exact kk N2 hI2
  · exact absurd rfl h1153
set_option maxHeartbeats 4000000 in
theorem lc_count (G : GT) (b L : Nat) (xs : Nat → Int32) (M : Mem) (i : Int) (hL : L ≤ 3072) (h0 : 0 ≤ i) (h1 : i + 6 ≤ L) (hI : Inv M) (kk : ∀ N, Inv N → AW G R_law code 4 ret (XL G b L xs) 1195 [(0, vR 63), (1, vR 0), (2, vR 44), (3, vI i)] [] N) : AW G R_law code 4 ret (XL G b L xs) 1158 [(0, vR 63), (1, vR 0), (2, vR 44), (3, vI i)] [] M := by
  refine a_aload_n (kL13.at 14 rfl) 1 rfl ?_
  refine a_aload_n (kL13.at 15 rfl) 0 rfl ?_
  refine a_iload_n (kL13.at 16 rfl) 3 rfl ?_
  refine a_iconst (kL13.at 17 rfl) rfl ?_
  refine a_iadd (kL13.at 18 rfl) (inr (by omega)) ?_
  refine a_sld (kL13.at 19 rfl) (by omega) ?_
  refine AW.callV (as := [vI (sc xs (i + 1))]) (st := []) (kL13.at 20 rfl) ml_L_152 sv_X5_count (k := 0) (io_0) rfl rfl ⟨Nat.le_of_ble_eq_true rfl, Nat.le_of_ble_eq_true rfl⟩ ⟨Nat.le_refl _, Nat.le_refl _⟩ rfl rfl (Nat.le_of_ble_eq_true rfl) (a_kcount G M (sc xs (i + 1)) hI) (kI fun r N1 hr => ?_)
  obtain ⟨er, c1, f1⟩ := hr; rw [er]
  refine a_aload_n (kL13.at 21 rfl) 2 rfl ?_
  refine a_aload_n (kL13.at 22 rfl) 0 rfl ?_
  refine a_iload_n (kL13.at 23 rfl) 3 rfl ?_
  refine a_iconst (kL13.at 24 rfl) rfl ?_
  refine a_iadd (kL13.at 25 rfl) (inr (by omega)) ?_
  refine a_sld (kL13.at 26 rfl) (by omega) ?_
  refine AW.callV (as := [vI (sc xs (i + 1))]) (st := [vI (o_count M (sc xs (i + 1)))]) (kL13.at 27 rfl) ml_L_155 sv_X6_count (k := 44) (io_44) rfl rfl ⟨Nat.le_of_ble_eq_true rfl, Nat.le_of_ble_eq_true rfl⟩ ⟨Nat.le_refl _, Nat.le_refl _⟩ rfl rfl (Nat.le_of_ble_eq_true rfl) (a_ccount G M N1 (sc xs (i + 1)) hI c1 f1) (kI fun r N2 hr => ?_)
  obtain ⟨er, hI2⟩ := hr; rw [er]
  refine a_icmpeq (tgt := 1195) (kL13.at 28 rfl) (by decide) (fun h1176 => ?_) (fun h1176 => ?_)
  · exact kk N2 hI2
  · exact absurd rfl h1176
set_option maxHeartbeats 4000000 in
theorem lc_digest (G : GT) (b L : Nat) (xs : Nat → Int32) (M : Mem) (i : Int) (hL : L ≤ 3072) (h0 : 0 ≤ i) (h1 : i + 6 ≤ L) (hI : Inv M) (kk : ∀ N, Inv N → AW G R_law code 4 ret (XL G b L xs) 1195 [(0, vR 63), (1, vR 0), (2, vR 44), (3, vI i)] [] N) : AW G R_law code 4 ret (XL G b L xs) 1181 [(0, vR 63), (1, vR 0), (2, vR 44), (3, vI i)] [] M := by
  refine a_aload_n (kL13.at 31 rfl) 1 rfl ?_
  refine AW.callV (as := []) (st := []) (kL13.at 32 rfl) ml_L_156 sv_X5_digest (k := 0) (io_0) rfl rfl ⟨Nat.le_of_ble_eq_true rfl, Nat.le_of_ble_eq_true rfl⟩ ⟨Nat.le_refl _, Nat.le_refl _⟩ rfl rfl (Nat.le_of_ble_eq_true rfl) (a_kdigest G M hI) (kL fun r N1 hr => ?_)
  obtain ⟨er, c1, f1⟩ := hr; rw [er]
  refine a_aload_n (kL13.at 33 rfl) 2 rfl ?_
  refine AW.callV (as := []) (st := [vL (digS M)]) (kL13.at 34 rfl) ml_L_160 sv_X6_digest (k := 44) (io_44) rfl rfl ⟨Nat.le_of_ble_eq_true rfl, Nat.le_of_ble_eq_true rfl⟩ ⟨Nat.le_refl _, Nat.le_refl _⟩ rfl rfl (Nat.le_of_ble_eq_true rfl) (a_cdigest G M N1 hI c1 f1) (kL fun r N2 hr => ?_)
  obtain ⟨er, hI2⟩ := hr; rw [er]
  refine a_lcmp (kL13.at 35 rfl) ?_
  refine a_ifeq (tgt := 1195) (kL13.at 36 rfl) (by decide) (fun h1190 => ?_) (fun h1190 => ?_)
  · rw [cmpI_eq] at h1190
    exact kk N2 hI2
  · rw [cmpI_eq] at h1190
    exact absurd rfl h1190
