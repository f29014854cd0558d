/-! ===== the reference: more about quarters ===== -/
noncomputable def brF (M : Mem) (k : Int) : Int → Int → Int := fun q n => if houseOf M q (M 56 (8 * q + k) - 1) = -1 ∧ houseOf M q (M 56 (8 * q + k) + 1) = -1 then n + 1 else n + 0
noncomputable def boredOf (M : Mem) (k : Int) : Int := forR 0 16 (brF M k) 0
set_option maxHeartbeats 4000000 in
set_option maxRecDepth 100000 in
theorem l_boredOf (G : GT) (M : Mem) (k : Int) (P : Option AV → Mem → Prop) (hB : HB M) (hk : 0 ≤ k ∧ k < M 44 7) (hlohi : (0 : Int) ≤ 16) (kk : (0 ≤ (forR 0 16 (brF M k) 0) ∧ (forR 0 16 (brF M k) 0) ≤ 16) → AW G RX6 cX6_boredOf 5 (some .int) (XM G 1 P) 63 [(0, vR 44), (1, vI k), (2, vI (forR 0 16 (brF M k) 0)), (3, vI 16)] [] M) : AW G RX6 cX6_boredOf 5 (some .int) (XM G 1 P) 4 [(0, vR 44), (1, vI k), (2, vI 0), (3, vI 0)] [] M := by
  have key : ∀ (nn : Nat) (q : Int) (n : Int), (0 : Int) ≤ q → q ≤ 16 → n = forR 0 q (brF M k) 0 → (0 ≤ n ∧ n ≤ q) → 16 - q < nn → AW G RX6 cX6_boredOf 5 (some .int) (XM G 1 P) 4 [(0, vR 44), (1, vI k), (2, vI n), (3, vI q)] [] M := by
    intro nn
    induction nn with
    | zero => intro q n hk0 hk1 e_n hb hn; omega
    | succ nn ih =>
      intro q n hk0 hk1 e_n hb hn
      have hp := hB.1
      have hh := hB.2 q k (by omega)
      refine a_iload_n (kX6_boredOf.at 4 rfl) 3 rfl ?_
      refine a_bipush (kX6_boredOf.at 5 rfl) rfl rfl ?_
      refine a_icmpge (tgt := 63) (kX6_boredOf.at 6 rfl) (by decide) (fun h7 => ?_) (fun h7 => ?_)
      · obtain rfl : q = 16 := by omega
        subst e_n
        exact kk hb
      · refine a_aload_n (kX6_boredOf.at 7 rfl) 0 rfl ?_
        refine a_getR (kX6_boredOf.at 8 rfl) fg_X6_43 ir_44_19 ?_
        refine a_bipush (kX6_boredOf.at 9 rfl) rfl rfl ?_
        refine a_iload_n (kX6_boredOf.at 10 rfl) 3 rfl ?_
        refine a_imul (kX6_boredOf.at 11 rfl) (inr (by omega)) ?_
        refine a_iload_n (kX6_boredOf.at 12 rfl) 1 rfl ?_
        refine a_iadd (kX6_boredOf.at 13 rfl) (inr (by omega)) ?_
        refine a_iald (x := M 56 ((8 * q) + k)) (kX6_boredOf.at 14 rfl) (ia_56) (by omega) (rfl) ?_
        refine a_istore (ls' := [(0, vR 44), (1, vI k), (2, vI n), (3, vI q), (4, vI (M 56 ((8 * q) + k)))]) (kX6_boredOf.at 15 rfl) (by decide) rfl ?_
        refine a_iload_n (kX6_boredOf.at 16 rfl) 2 rfl ?_
        refine a_aload_n (kX6_boredOf.at 17 rfl) 0 rfl ?_
        refine a_iload_n (kX6_boredOf.at 18 rfl) 3 rfl ?_
        refine a_iload (kX6_boredOf.at 19 rfl) 4 rfl ?_
        refine a_iconst (kX6_boredOf.at 20 rfl) rfl ?_
        refine a_isub (kX6_boredOf.at 21 rfl) (inr (by omega)) ?_
        refine AW.callV (as := [vI q, vI ((M 56 ((8 * q) + k)) - 1)]) (st := [vI n]) (kX6_boredOf.at 22 rfl) ml_X6_212 sv_X6_houseOf (k := 44) (io_44) rfl rfl ⟨Nat.le_of_ble_eq_true rfl, Nat.le_of_ble_eq_true rfl⟩ ⟨Nat.le_refl _, Nat.le_refl _⟩ rfl rfl (Nat.le_of_ble_eq_true rfl) (c_houseOf G M q ((M 56 ((8 * q) + k)) - 1) (by omega) (by omega)) (kIE ?_)
        refine a_iconst (kX6_boredOf.at 23 rfl) rfl ?_
        refine a_icmpne (tgt := 54) (kX6_boredOf.at 24 rfl) (by decide) (fun h34 => ?_) (fun h34 => ?_)
        · refine a_iconst (kX6_boredOf.at 35 rfl) rfl ?_
          refine a_iadd (kX6_boredOf.at 36 rfl) (inr (by omega)) ?_
          refine a_istore_n (ls' := [(0, vR 44), (1, vI k), (2, vI (n + 0)), (3, vI q), (4, vI (M 56 ((8 * q) + k)))]) (kX6_boredOf.at 37 rfl) (by decide) rfl ?_
          refine a_iinc (ls' := [(0, vR 44), (1, vI k), (2, vI (n + 0)), (3, vI (q + 1)), (4, vI (M 56 ((8 * q) + k)))]) (kX6_boredOf.at 38 rfl) 3 rfl (by decide) (inr (by omega)) rfl ?_
          refine a_goto (tgt := 4) (kX6_boredOf.at 39 rfl) (by decide) ?_
          refine AW.loc (ls' := [(0, vR 44), (1, vI k), (2, vI (n + 0)), (3, vI (q + 1))]) [0, 1, 2, 3] rfl ?_
          exact ih ((q + 1)) ((n + 0)) (by omega) (by omega) (by rw [forR_succ hk0, ← e_n] <;> (clear ih kk e_n; unfold brF; simp [*])) (by omega) (by omega)
        · refine a_aload_n (kX6_boredOf.at 25 rfl) 0 rfl ?_
          refine a_iload_n (kX6_boredOf.at 26 rfl) 3 rfl ?_
          refine a_iload (kX6_boredOf.at 27 rfl) 4 rfl ?_
          refine a_iconst (kX6_boredOf.at 28 rfl) rfl ?_
          refine a_iadd (kX6_boredOf.at 29 rfl) (inr (by omega)) ?_
          refine AW.callV (as := [vI q, vI ((M 56 ((8 * q) + k)) + 1)]) (st := [vI n]) (kX6_boredOf.at 30 rfl) ml_X6_212 sv_X6_houseOf (k := 44) (io_44) rfl rfl ⟨Nat.le_of_ble_eq_true rfl, Nat.le_of_ble_eq_true rfl⟩ ⟨Nat.le_refl _, Nat.le_refl _⟩ rfl rfl (Nat.le_of_ble_eq_true rfl) (c_houseOf G M q ((M 56 ((8 * q) + k)) + 1) (by omega) (by omega)) (kIE ?_)
          refine a_iconst (kX6_boredOf.at 31 rfl) rfl ?_
          refine a_icmpne (tgt := 54) (kX6_boredOf.at 32 rfl) (by decide) (fun h47 => ?_) (fun h47 => ?_)
          · refine a_iconst (kX6_boredOf.at 35 rfl) rfl ?_
            refine a_iadd (kX6_boredOf.at 36 rfl) (inr (by omega)) ?_
            refine a_istore_n (ls' := [(0, vR 44), (1, vI k), (2, vI (n + 0)), (3, vI q), (4, vI (M 56 ((8 * q) + k)))]) (kX6_boredOf.at 37 rfl) (by decide) rfl ?_
            refine a_iinc (ls' := [(0, vR 44), (1, vI k), (2, vI (n + 0)), (3, vI (q + 1)), (4, vI (M 56 ((8 * q) + k)))]) (kX6_boredOf.at 38 rfl) 3 rfl (by decide) (inr (by omega)) rfl ?_
            refine a_goto (tgt := 4) (kX6_boredOf.at 39 rfl) (by decide) ?_
            refine AW.loc (ls' := [(0, vR 44), (1, vI k), (2, vI (n + 0)), (3, vI (q + 1))]) [0, 1, 2, 3] rfl ?_
            exact ih ((q + 1)) ((n + 0)) (by omega) (by omega) (by rw [forR_succ hk0, ← e_n] <;> (clear ih kk e_n; unfold brF; simp [*])) (by omega) (by omega)
          · refine a_iconst (kX6_boredOf.at 33 rfl) rfl ?_
            refine a_goto (tgt := 55) (kX6_boredOf.at 34 rfl) (by decide) ?_
            refine a_iadd (kX6_boredOf.at 36 rfl) (inr (by omega)) ?_
            refine a_istore_n (ls' := [(0, vR 44), (1, vI k), (2, vI (n + 1)), (3, vI q), (4, vI (M 56 ((8 * q) + k)))]) (kX6_boredOf.at 37 rfl) (by decide) rfl ?_
            refine a_iinc (ls' := [(0, vR 44), (1, vI k), (2, vI (n + 1)), (3, vI (q + 1)), (4, vI (M 56 ((8 * q) + k)))]) (kX6_boredOf.at 38 rfl) 3 rfl (by decide) (inr (by omega)) rfl ?_
            refine a_goto (tgt := 4) (kX6_boredOf.at 39 rfl) (by decide) ?_
            refine AW.loc (ls' := [(0, vR 44), (1, vI k), (2, vI (n + 1)), (3, vI (q + 1))]) [0, 1, 2, 3] rfl ?_
            exact ih ((q + 1)) ((n + 1)) (by omega) (by omega) (by rw [forR_succ hk0, ← e_n] <;> (clear ih kk e_n; unfold brF; simp [*])) (by omega) (by omega)
  exact key ((16) - (0) + 1 : Int).toNat (0) 0 (Int.le_refl _) hlohi (forR_nil (Int.le_refl _)).symm (by omega) (by omega)
theorem c_boredOf (G : GT) (M : Mem) (k : Int) (hB : HB M) (hk : 0 ≤ k ∧ k < M 44 7) : AM G yX6_boredOf cX6_boredOf 5 (some .int) 1 M [vR 44, vI k] (qI (boredOf M k) M) := by
  refine AM.mk (own := RX6) rfl sv_X6_boredOf.1.2.2.2.2.2 (Nat.le_of_ble_eq_true rfl) rfl ?_
  refine a_iconst (kX6_boredOf.at 0 rfl) rfl ?_
  refine a_istore_n (ls' := [(0, vR 44), (1, vI k), (2, vI 0)]) (kX6_boredOf.at 1 rfl) (by decide) rfl ?_
  refine a_iconst (kX6_boredOf.at 2 rfl) rfl ?_
  refine a_istore_n (ls' := [(0, vR 44), (1, vI k), (2, vI 0), (3, vI 0)]) (kX6_boredOf.at 3 rfl) (by decide) rfl ?_
  refine l_boredOf G M k _ hB hk (by omega) ?_
  intro hb
  show AW _ _ _ _ _ _ 63 [(0, vR 44), (1, vI k), (2, vI (boredOf M k)), (3, vI 16)] [] M
  refine a_iload_n (kX6_boredOf.at 40 rfl) 2 rfl ?_
  exact a_iretE (kX6_boredOf.at 41 rfl) (⟨rfl, rfl⟩)
noncomputable def o_bored (M : Mem) (k : Int) : Int := if 0 ≤ k ∧ k ≤ find M 44 7 - 1 then boredOf (find M) k else -2
theorem c_bored (G : GT) (M : Mem) (k : Int) (hI : MI M) : AM G yX6_bored cX6_bored 2 (some .int) 6 M [vR 44, vI k] (qI (o_bored M k) (find M)) := by
  refine AM.mk (own := RX6) rfl sv_X6_bored.1.2.2.2.2.2 (Nat.le_of_ble_eq_true rfl) rfl ?_
  have hB := find_HB hI
  have hp := hB.1
  refine a_aload_n (kX6_bored.at 0 rfl) 0 rfl ?_
  refine AW.callV (as := []) (st := []) (kX6_bored.at 1 rfl) ml_X6_203 sv_X6_find (k := 44) (io_44) rfl rfl ⟨Nat.le_of_ble_eq_true rfl, Nat.le_of_ble_eq_true rfl⟩ ⟨Nat.le_refl _, Nat.le_refl _⟩ rfl rfl (Nat.le_of_ble_eq_true rfl) (c_find G M hI) (kVE ?_)
  refine a_aload_n (kX6_bored.at 2 rfl) 0 rfl ?_
  refine a_iload_n (kX6_bored.at 3 rfl) 1 rfl ?_
  refine AW.callV (as := [vI k]) (st := []) (kX6_bored.at 4 rfl) ml_X6_125 sv_X6_isPerson (k := 44) (io_44) rfl rfl ⟨Nat.le_of_ble_eq_true rfl, Nat.le_of_ble_eq_true rfl⟩ ⟨Nat.le_refl _, Nat.le_refl _⟩ rfl rfl (Nat.le_of_ble_eq_true rfl) (c_isPerson G (find M) k (by omega)) (kIE ?_)
  refine a_ifeqB (tgt := 20) (kX6_bored.at 5 rfl) (by decide) (fun h9 => ?_) (fun h9 => ?_)
  · refine a_bipush (kX6_bored.at 10 rfl) rfl rfl ?_
    exact a_iretE (kX6_bored.at 11 rfl) (by first | (exfalso; omega) | (unfold o_bored; (repeat' split) <;> first | (exfalso; omega) | exact ⟨rfl, rfl⟩))
  · refine a_aload_n (kX6_bored.at 6 rfl) 0 rfl ?_
    refine a_iload_n (kX6_bored.at 7 rfl) 1 rfl ?_
    refine AW.callV (as := [vI k]) (st := []) (kX6_bored.at 8 rfl) ml_X6_225 sv_X6_boredOf (k := 44) (io_44) rfl rfl ⟨Nat.le_of_ble_eq_true rfl, Nat.le_of_ble_eq_true rfl⟩ ⟨Nat.le_refl _, Nat.le_refl _⟩ rfl rfl (Nat.le_of_ble_eq_true rfl) (c_boredOf G (find M) k hB (by omega)) (kIE ?_)
    refine a_goto (tgt := 22) (kX6_bored.at 9 rfl) (by decide) ?_
    exact a_iretE (kX6_bored.at 11 rfl) (by first | (exfalso; omega) | (unfold o_bored; (repeat' split) <;> first | (exfalso; omega) | exact ⟨rfl, rfl⟩))
noncomputable def movesNow (M : Mem) : Int := forR 0 (M 44 7) (fun k n => n + M 54 k) 0
set_option maxHeartbeats 4000000 in
set_option maxRecDepth 100000 in
theorem l_movesNow (G : GT) (M : Mem) (X : XT) (hg : RG M 256) (hlohi : (0 : Int) ≤ (M 44 7)) (kk : (0 ≤ (forR 0 (M 44 7) (fun k n => n + M 54 k) 0) ∧ (forR 0 (M 44 7) (fun k n => n + M 54 k) 0) ≤ 256 * (M 44 7)) → AW G RX6 cX6_movesNow 3 (some .int) X 27 [(0, vR 44), (1, vI (forR 0 (M 44 7) (fun k n => n + M 54 k) 0)), (2, vI (M 44 7))] [] M) : AW G RX6 cX6_movesNow 3 (some .int) X 4 [(0, vR 44), (1, vI 0), (2, vI 0)] [] M := by
  have key : ∀ (nn : Nat) (k : Int) (n : Int), (0 : Int) ≤ k → k ≤ (M 44 7) → n = forR 0 k (fun k n => n + M 54 k) 0 → (0 ≤ n ∧ n ≤ 256 * k) → (M 44 7) - k < nn → AW G RX6 cX6_movesNow 3 (some .int) X 4 [(0, vR 44), (1, vI n), (2, vI k)] [] M := by
    intro nn
    induction nn with
    | zero => intro k n hk0 hk1 e_n hb hn; omega
    | succ nn ih =>
      intro k n hk0 hk1 e_n hb hn
      have hp := hg.1
      have hh := hg.2.1 k hk0
      refine a_iload_n (kX6_movesNow.at 4 rfl) 2 rfl ?_
      refine a_aload_n (kX6_movesNow.at 5 rfl) 0 rfl ?_
      refine a_getI (x := M 44 7) (kX6_movesNow.at 6 rfl) fg_X6_105 ii_44_7 (rfl) ?_
      refine a_icmpge (tgt := 27) (kX6_movesNow.at 7 rfl) (by decide) (fun h9 => ?_) (fun h9 => ?_)
      · obtain rfl : k = M 44 7 := by omega
        subst e_n
        exact kk hb
      · refine a_iload_n (kX6_movesNow.at 8 rfl) 1 rfl ?_
        refine a_aload_n (kX6_movesNow.at 9 rfl) 0 rfl ?_
        refine a_getR (kX6_movesNow.at 10 rfl) fg_X6_37 ir_44_17 ?_
        refine a_iload_n (kX6_movesNow.at 11 rfl) 2 rfl ?_
        refine a_iald (x := M 54 k) (kX6_movesNow.at 12 rfl) (ia_54) (by omega) (rfl) ?_
        refine a_iadd (kX6_movesNow.at 13 rfl) (inr (by omega)) ?_
        refine a_istore_n (ls' := [(0, vR 44), (1, vI (n + (M 54 k))), (2, vI k)]) (kX6_movesNow.at 14 rfl) (by decide) rfl ?_
        refine a_iinc (ls' := [(0, vR 44), (1, vI (n + (M 54 k))), (2, vI (k + 1))]) (kX6_movesNow.at 15 rfl) 2 rfl (by decide) (inr (by omega)) rfl ?_
        refine a_goto (tgt := 4) (kX6_movesNow.at 16 rfl) (by decide) ?_
        exact ih ((k + 1)) ((n + (M 54 k))) (by omega) (by omega) (by rw [forR_succ hk0, ← e_n] <;> (clear ih kk e_n; first | (exfalso; omega) | rfl | (simp [*] <;> omega))) (by omega) (by omega)
  exact key ((M 44 7) - (0) + 1 : Int).toNat (0) 0 (Int.le_refl _) hlohi (forR_nil (Int.le_refl _)).symm (by omega) (by omega)
theorem c_movesNow (G : GT) (M : Mem) (hg : RG M 256) : AM G yX6_movesNow cX6_movesNow 3 (some .int) 0 M [vR 44] (qI (movesNow M) M) := by
  refine AM.mk (own := RX6) rfl sv_X6_movesNow.1.2.2.2.2.2 (Nat.le_of_ble_eq_true rfl) rfl ?_
  refine a_iconst (kX6_movesNow.at 0 rfl) rfl ?_
  refine a_istore_n (ls' := [(0, vR 44), (1, vI 0)]) (kX6_movesNow.at 1 rfl) (by decide) rfl ?_
  refine a_iconst (kX6_movesNow.at 2 rfl) rfl ?_
  refine a_istore_n (ls' := [(0, vR 44), (1, vI 0), (2, vI 0)]) (kX6_movesNow.at 3 rfl) (by decide) rfl ?_
  refine l_movesNow G M _ hg hg.1.1 ?_
  intro hb
  show AW _ _ _ _ _ _ 27 [(0, vR 44), (1, vI (movesNow M)), (2, vI (M 44 7))] [] M
  refine a_iload_n (kX6_movesNow.at 17 rfl) 1 rfl ?_
  exact a_iretE (kX6_movesNow.at 18 rfl) (⟨rfl, rfl⟩)
theorem movesNow_r {M : Mem} (hg : RG M 256) : 0 ≤ movesNow M ∧ movesNow M ≤ 2048 := by
  have hp := hg.1
  have := forR_inv (lo := 0) (hi := M 44 7) (f := fun k n => n + M 54 k) (a := (0 : Int)) (fun k n => 0 ≤ n ∧ n ≤ 256 * k) hp.1 (by omega) (fun k n h1 h2 h3 => by have := hg.2.1 k h1 h2; omega)
  unfold movesNow
  omega
noncomputable def sumBy (M : Mem) (w : Int) : Int := if w = 0 then movesNow M else if w = 1 then M 44 24 else M 44 25
theorem c_sumBy (G : GT) (M : Mem) (w : Int) (hg : RG M 256) : AM G yX6_sumBy cX6_sumBy 2 (some .int) 1 M [vR 44, vI w] (qI (sumBy M w) M) := by
  refine AM.mk (own := RX6) rfl sv_X6_sumBy.1.2.2.2.2.2 (Nat.le_of_ble_eq_true rfl) rfl ?_
  refine a_iload_n (kX6_sumBy.at 0 rfl) 1 rfl ?_
  refine a_ifne (tgt := 11) (kX6_sumBy.at 1 rfl) (by decide) (fun h1 => ?_) (fun h1 => ?_)
  · refine a_iload_n (kX6_sumBy.at 5 rfl) 1 rfl ?_
    refine a_iconst (kX6_sumBy.at 6 rfl) rfl ?_
    refine a_icmpne (tgt := 23) (kX6_sumBy.at 7 rfl) (by decide) (fun h13 => ?_) (fun h13 => ?_)
    · refine a_aload_n (kX6_sumBy.at 11 rfl) 0 rfl ?_
      refine a_getI (x := M 44 25) (kX6_sumBy.at 12 rfl) fg_X6_165 ii_44_25 (rfl) ?_
      exact a_iretE (kX6_sumBy.at 13 rfl) (by first | (exfalso; omega) | (unfold sumBy; (repeat' split) <;> first | (exfalso; omega) | exact ⟨rfl, rfl⟩))
    · refine a_aload_n (kX6_sumBy.at 8 rfl) 0 rfl ?_
      refine a_getI (x := M 44 24) (kX6_sumBy.at 9 rfl) fg_X6_162 ii_44_24 (rfl) ?_
      refine a_goto (tgt := 27) (kX6_sumBy.at 10 rfl) (by decide) ?_
      exact a_iretE (kX6_sumBy.at 13 rfl) (by first | (exfalso; omega) | (unfold sumBy; (repeat' split) <;> first | (exfalso; omega) | exact ⟨rfl, rfl⟩))
  · refine a_aload_n (kX6_sumBy.at 2 rfl) 0 rfl ?_
    refine AW.callV (as := []) (st := []) (kX6_sumBy.at 3 rfl) ml_X6_228 sv_X6_movesNow (k := 44) (io_44) rfl rfl ⟨Nat.le_of_ble_eq_true rfl, Nat.le_of_ble_eq_true rfl⟩ ⟨Nat.le_refl _, Nat.le_refl _⟩ rfl rfl (Nat.le_of_ble_eq_true rfl) (c_movesNow G M hg) (kIE ?_)
    refine a_goto (tgt := 27) (kX6_sumBy.at 4 rfl) (by decide) ?_
    exact a_iretE (kX6_sumBy.at 13 rfl) (by first | (exfalso; omega) | (unfold sumBy; (repeat' split) <;> first | (exfalso; omega) | exact ⟨rfl, rfl⟩))
noncomputable def o_sum (M : Mem) (w : Int) : Int := if 0 ≤ w ∧ w ≤ 2 then sumBy (find M) w else -2
theorem c_sum (G : GT) (M : Mem) (w : Int) (hI : MI M) : AM G yX6_sum cX6_sum 2 (some .int) 6 M [vR 44, vI w] (qI (o_sum M w) (find M)) := by
  refine AM.mk (own := RX6) rfl sv_X6_sum.1.2.2.2.2.2 (Nat.le_of_ble_eq_true rfl) rfl ?_
  have hg := find_RG hI
  refine a_aload_n (kX6_sum.at 0 rfl) 0 rfl ?_
  refine AW.callV (as := []) (st := []) (kX6_sum.at 1 rfl) ml_X6_203 sv_X6_find (k := 44) (io_44) rfl rfl ⟨Nat.le_of_ble_eq_true rfl, Nat.le_of_ble_eq_true rfl⟩ ⟨Nat.le_refl _, Nat.le_refl _⟩ rfl rfl (Nat.le_of_ble_eq_true rfl) (c_find G M hI) (kVE ?_)
  refine a_iload_n (kX6_sum.at 2 rfl) 1 rfl ?_
  refine a_i2l (kX6_sum.at 3 rfl) ?_
  refine a_lconst (kX6_sum.at 4 rfl) 0 rfl rfl ?_
  refine a_ldc2 (kX6_sum.at 5 rfl) cl_X6_83 (2) rfl ⟨by decide, by decide⟩ ?_
  refine AW.callS (as := [vL w, vL 0, vL 2]) (st := []) (kX6_sum.at 6 rfl) ml_X6_70 ss_X6_in ⟨Nat.le_of_ble_eq_true rfl, Nat.le_of_ble_eq_true rfl⟩ ⟨Nat.le_refl _, Nat.le_refl _⟩ rfl rfl (Nat.le_of_ble_eq_true rfl) (c_in G (find M) w 0 2) (kIE ?_)
  refine a_ifeqB (tgt := 24) (kX6_sum.at 7 rfl) (by decide) (fun h13 => ?_) (fun h13 => ?_)
  · refine a_bipush (kX6_sum.at 12 rfl) rfl rfl ?_
    exact a_iretE (kX6_sum.at 13 rfl) (by first | (exfalso; omega) | (unfold o_sum; (repeat' split) <;> first | (exfalso; omega) | exact ⟨rfl, rfl⟩))
  · refine a_aload_n (kX6_sum.at 8 rfl) 0 rfl ?_
    refine a_iload_n (kX6_sum.at 9 rfl) 1 rfl ?_
    refine AW.callV (as := [vI w]) (st := []) (kX6_sum.at 10 rfl) ml_X6_231 sv_X6_sumBy (k := 44) (io_44) rfl rfl ⟨Nat.le_of_ble_eq_true rfl, Nat.le_of_ble_eq_true rfl⟩ ⟨Nat.le_refl _, Nat.le_refl _⟩ rfl rfl (Nat.le_of_ble_eq_true rfl) (c_sumBy G (find M) w hg) (kIE ?_)
    refine a_goto (tgt := 26) (kX6_sum.at 11 rfl) (by decide) ?_
    exact a_iretE (kX6_sum.at 13 rfl) (by first | (exfalso; omega) | (unfold o_sum; (repeat' split) <;> first | (exfalso; omega) | exact ⟨rfl, rfl⟩))
noncomputable def o_first (M : Mem) (w : Int) : Int := if 0 ≤ w ∧ w ≤ 1 then (if w = 0 then find M 44 26 else find M 44 27) else -2
theorem c_first (G : GT) (M : Mem) (w : Int) (hI : MI M) : AM G yX6_first cX6_first 2 (some .int) 6 M [vR 44, vI w] (qI (o_first M w) (find M)) := by
  refine AM.mk (own := RX6) rfl sv_X6_first.1.2.2.2.2.2 (Nat.le_of_ble_eq_true rfl) rfl ?_
  refine a_aload_n (kX6_first.at 0 rfl) 0 rfl ?_
  refine AW.callV (as := []) (st := []) (kX6_first.at 1 rfl) ml_X6_203 sv_X6_find (k := 44) (io_44) rfl rfl ⟨Nat.le_of_ble_eq_true rfl, Nat.le_of_ble_eq_true rfl⟩ ⟨Nat.le_refl _, Nat.le_refl _⟩ rfl rfl (Nat.le_of_ble_eq_true rfl) (c_find G M hI) (kVE ?_)
  refine a_iload_n (kX6_first.at 2 rfl) 1 rfl ?_
  refine AW.callS (as := [vI w]) (st := []) (kX6_first.at 3 rfl) ml_X6_219 ss_X6_isTwo ⟨Nat.le_of_ble_eq_true rfl, Nat.le_of_ble_eq_true rfl⟩ ⟨Nat.le_refl _, Nat.le_refl _⟩ rfl rfl (Nat.le_of_ble_eq_true rfl) (c_isTwo G (find M) w) (kIE ?_)
  refine a_ifeqB (tgt := 29) (kX6_first.at 4 rfl) (by decide) (fun h8 => ?_) (fun h8 => ?_)
  · refine a_bipush (kX6_first.at 13 rfl) rfl rfl ?_
    exact a_iretE (kX6_first.at 14 rfl) (by first | (exfalso; omega) | (unfold o_first; (repeat' split) <;> first | (exfalso; omega) | exact ⟨rfl, rfl⟩))
  · refine a_iload_n (kX6_first.at 5 rfl) 1 rfl ?_
    refine a_ifne (tgt := 22) (kX6_first.at 6 rfl) (by decide) (fun h12 => ?_) (fun h12 => ?_)
    · refine a_aload_n (kX6_first.at 10 rfl) 0 rfl ?_
      refine a_getI (x := (find M) 44 27) (kX6_first.at 11 rfl) fg_X6_171 ii_44_27 (rfl) ?_
      refine a_goto (tgt := 31) (kX6_first.at 12 rfl) (by decide) ?_
      exact a_iretE (kX6_first.at 14 rfl) (by first | (exfalso; omega) | (unfold o_first; (repeat' split) <;> first | (exfalso; omega) | exact ⟨rfl, rfl⟩))
    · refine a_aload_n (kX6_first.at 7 rfl) 0 rfl ?_
      refine a_getI (x := (find M) 44 26) (kX6_first.at 8 rfl) fg_X6_168 ii_44_26 (rfl) ?_
      refine a_goto (tgt := 31) (kX6_first.at 9 rfl) (by decide) ?_
      exact a_iretE (kX6_first.at 14 rfl) (by first | (exfalso; omega) | (unfold o_first; (repeat' split) <;> first | (exfalso; omega) | exact ⟨rfl, rfl⟩))
noncomputable def rootedNow (M : Mem) : Int := forR 0 (M 44 7) (fun k b => iOr b (if M 54 k = 0 then iShl 1 k else 0)) 0
set_option maxHeartbeats 4000000 in
set_option maxRecDepth 100000 in
theorem l_rootedNow (G : GT) (M : Mem) (X : XT) (hp : 0 ≤ M 44 7 ∧ M 44 7 ≤ 8) (hlohi : (0 : Int) ≤ (M 44 7)) (kk : AW G RX6 cX6_rootedNow 3 (some .int) X 37 [(0, vR 44), (1, vI (forR 0 (M 44 7) (fun k b => iOr b (if M 54 k = 0 then iShl 1 k else 0)) 0)), (2, vI (M 44 7))] [] M) : AW G RX6 cX6_rootedNow 3 (some .int) X 4 [(0, vR 44), (1, vI 0), (2, vI 0)] [] M := by
  have key : ∀ (nn : Nat) (k : Int) (b : Int), (0 : Int) ≤ k → k ≤ (M 44 7) → b = forR 0 k (fun k b => iOr b (if M 54 k = 0 then iShl 1 k else 0)) 0 → (M 44 7) - k < nn → AW G RX6 cX6_rootedNow 3 (some .int) X 4 [(0, vR 44), (1, vI b), (2, vI k)] [] M := by
    intro nn
    induction nn with
    | zero => intro k b hk0 hk1 e_b  hn; omega
    | succ nn ih =>
      intro k b hk0 hk1 e_b  hn
      refine a_iload_n (kX6_rootedNow.at 4 rfl) 2 rfl ?_
      refine a_aload_n (kX6_rootedNow.at 5 rfl) 0 rfl ?_
      refine a_getI (x := M 44 7) (kX6_rootedNow.at 6 rfl) fg_X6_105 ii_44_7 (rfl) ?_
      refine a_icmpge (tgt := 37) (kX6_rootedNow.at 7 rfl) (by decide) (fun h9 => ?_) (fun h9 => ?_)
      · obtain rfl : k = M 44 7 := by omega
        subst e_b
        exact kk 
      · refine a_iload_n (kX6_rootedNow.at 8 rfl) 1 rfl ?_
        refine a_aload_n (kX6_rootedNow.at 9 rfl) 0 rfl ?_
        refine a_getR (kX6_rootedNow.at 10 rfl) fg_X6_37 ir_44_17 ?_
        refine a_iload_n (kX6_rootedNow.at 11 rfl) 2 rfl ?_
        refine a_iald (x := M 54 k) (kX6_rootedNow.at 12 rfl) (ia_54) (by omega) (rfl) ?_
        refine a_ifne (tgt := 28) (kX6_rootedNow.at 13 rfl) (by decide) (fun h19 => ?_) (fun h19 => ?_)
        · refine a_iconst (kX6_rootedNow.at 18 rfl) rfl ?_
          refine a_ior (kX6_rootedNow.at 19 rfl) ?_
          refine a_istore_n (ls' := [(0, vR 44), (1, vI (iOr b 0)), (2, vI k)]) (kX6_rootedNow.at 20 rfl) (by decide) rfl ?_
          refine a_iinc (ls' := [(0, vR 44), (1, vI (iOr b 0)), (2, vI (k + 1))]) (kX6_rootedNow.at 21 rfl) 2 rfl (by decide) (inr (by omega)) rfl ?_
          refine a_goto (tgt := 4) (kX6_rootedNow.at 22 rfl) (by decide) ?_
          exact ih ((k + 1)) ((iOr b 0)) (by omega) (by omega) (by rw [forR_succ hk0, ← e_b] <;> (clear ih kk e_b; first | (exfalso; omega) | rfl | (simp [*] <;> omega))) (by omega)
        · refine a_iconst (kX6_rootedNow.at 14 rfl) rfl ?_
          refine a_iload_n (kX6_rootedNow.at 15 rfl) 2 rfl ?_
          refine a_ishl (kX6_rootedNow.at 16 rfl) ?_
          refine a_goto (tgt := 29) (kX6_rootedNow.at 17 rfl) (by decide) ?_
          refine a_ior (kX6_rootedNow.at 19 rfl) ?_
          refine a_istore_n (ls' := [(0, vR 44), (1, vI (iOr b (iShl 1 k))), (2, vI k)]) (kX6_rootedNow.at 20 rfl) (by decide) rfl ?_
          refine a_iinc (ls' := [(0, vR 44), (1, vI (iOr b (iShl 1 k))), (2, vI (k + 1))]) (kX6_rootedNow.at 21 rfl) 2 rfl (by decide) (inr (by omega)) rfl ?_
          refine a_goto (tgt := 4) (kX6_rootedNow.at 22 rfl) (by decide) ?_
          exact ih ((k + 1)) ((iOr b (iShl 1 k))) (by omega) (by omega) (by rw [forR_succ hk0, ← e_b] <;> (clear ih kk e_b; first | (exfalso; omega) | rfl | (simp [*] <;> omega))) (by omega)
  exact key ((M 44 7) - (0) + 1 : Int).toNat (0) 0 (Int.le_refl _) hlohi (forR_nil (Int.le_refl _)).symm  (by omega)
theorem c_rootedNow (G : GT) (M : Mem) (hp : 0 ≤ M 44 7 ∧ M 44 7 ≤ 8) : AM G yX6_rootedNow cX6_rootedNow 3 (some .int) 0 M [vR 44] (qI (rootedNow M) M) := by
  refine AM.mk (own := RX6) rfl sv_X6_rootedNow.1.2.2.2.2.2 (Nat.le_of_ble_eq_true rfl) rfl ?_
  refine a_iconst (kX6_rootedNow.at 0 rfl) rfl ?_
  refine a_istore_n (ls' := [(0, vR 44), (1, vI 0)]) (kX6_rootedNow.at 1 rfl) (by decide) rfl ?_
  refine a_iconst (kX6_rootedNow.at 2 rfl) rfl ?_
  refine a_istore_n (ls' := [(0, vR 44), (1, vI 0), (2, vI 0)]) (kX6_rootedNow.at 3 rfl) (by decide) rfl ?_
  refine l_rootedNow G M _ hp hp.1 ?_
  show AW _ _ _ _ _ _ 37 [(0, vR 44), (1, vI (rootedNow M)), (2, vI (M 44 7))] [] M
  refine a_iload_n (kX6_rootedNow.at 23 rfl) 1 rfl ?_
  exact a_iretE (kX6_rootedNow.at 24 rfl) (⟨rfl, rfl⟩)
theorem c_rooted (G : GT) (M : Mem) (hI : MI M) : AM G yX6_rooted cX6_rooted 1 (some .int) 6 M [vR 44] (qI (rootedNow (find M)) (find M)) := by
  refine AM.mk (own := RX6) rfl sv_X6_rooted.1.2.2.2.2.2 (Nat.le_of_ble_eq_true rfl) rfl ?_
  have hp := find_pr M hI
  refine a_aload_n (kX6_rooted.at 0 rfl) 0 rfl ?_
  refine AW.callV (as := []) (st := []) (kX6_rooted.at 1 rfl) ml_X6_203 sv_X6_find (k := 44) (io_44) rfl rfl ⟨Nat.le_of_ble_eq_true rfl, Nat.le_of_ble_eq_true rfl⟩ ⟨Nat.le_refl _, Nat.le_refl _⟩ rfl rfl (Nat.le_of_ble_eq_true rfl) (c_find G M hI) (kVE ?_)
  refine a_aload_n (kX6_rooted.at 2 rfl) 0 rfl ?_
  refine AW.callV (as := []) (st := []) (kX6_rooted.at 3 rfl) ml_X6_234 sv_X6_rootedNow (k := 44) (io_44) rfl rfl ⟨Nat.le_of_ble_eq_true rfl, Nat.le_of_ble_eq_true rfl⟩ ⟨Nat.le_refl _, Nat.le_refl _⟩ rfl rfl (Nat.le_of_ble_eq_true rfl) (c_rootedNow G (find M) hp) (kIE ?_)
  exact a_iretE (kX6_rooted.at 4 rfl) (⟨rfl, rfl⟩)
noncomputable def friendsOf (M : Mem) (k : Int) : Int := forR 0 (M 44 7) (fun j b => iOr b (if ¬ j = k ∧ agree M j k = true then iShl 1 j else 0)) 0
set_option maxHeartbeats 4000000 in
set_option maxRecDepth 100000 in
theorem l_friendsOf (G : GT) (M : Mem) (k : Int) (P : Option AV → Mem → Prop) (hp : 0 ≤ M 44 7 ∧ M 44 7 ≤ 8) (hk : 0 ≤ k ∧ k ≤ 7) (hlohi : (0 : Int) ≤ (M 44 7)) (kk : AW G RX6 cX6_friendsOf 4 (some .int) (XM G 1 P) 42 [(0, vR 44), (1, vI k), (2, vI (forR 0 (M 44 7) (fun j b => iOr b (if ¬ j = k ∧ agree M j k = true then iShl 1 j else 0)) 0)), (3, vI (M 44 7))] [] M) : AW G RX6 cX6_friendsOf 4 (some .int) (XM G 1 P) 4 [(0, vR 44), (1, vI k), (2, vI 0), (3, vI 0)] [] M := by
  have key : ∀ (nn : Nat) (j : Int) (b : Int), (0 : Int) ≤ j → j ≤ (M 44 7) → b = forR 0 j (fun j b => iOr b (if ¬ j = k ∧ agree M j k = true then iShl 1 j else 0)) 0 → (M 44 7) - j < nn → AW G RX6 cX6_friendsOf 4 (some .int) (XM G 1 P) 4 [(0, vR 44), (1, vI k), (2, vI b), (3, vI j)] [] M := by
    intro nn
    induction nn with
    | zero => intro j b hk0 hk1 e_b  hn; omega
    | succ nn ih =>
      intro j b hk0 hk1 e_b  hn
      refine a_iload_n (kX6_friendsOf.at 4 rfl) 3 rfl ?_
      refine a_aload_n (kX6_friendsOf.at 5 rfl) 0 rfl ?_
      refine a_getI (x := M 44 7) (kX6_friendsOf.at 6 rfl) fg_X6_105 ii_44_7 (rfl) ?_
      refine a_icmpge (tgt := 42) (kX6_friendsOf.at 7 rfl) (by decide) (fun h9 => ?_) (fun h9 => ?_)
      · obtain rfl : j = M 44 7 := by omega
        subst e_b
        exact kk 
      · refine a_iload_n (kX6_friendsOf.at 8 rfl) 2 rfl ?_
        refine a_iload_n (kX6_friendsOf.at 9 rfl) 3 rfl ?_
        refine a_iload_n (kX6_friendsOf.at 10 rfl) 1 rfl ?_
        refine a_icmpeq (tgt := 33) (kX6_friendsOf.at 11 rfl) (by decide) (fun h15 => ?_) (fun h15 => ?_)
        · refine a_iconst (kX6_friendsOf.at 21 rfl) rfl ?_
          refine a_ior (kX6_friendsOf.at 22 rfl) ?_
          refine a_istore_n (ls' := [(0, vR 44), (1, vI k), (2, vI (iOr b 0)), (3, vI j)]) (kX6_friendsOf.at 23 rfl) (by decide) rfl ?_
          refine a_iinc (ls' := [(0, vR 44), (1, vI k), (2, vI (iOr b 0)), (3, vI (j + 1))]) (kX6_friendsOf.at 24 rfl) 3 rfl (by decide) (inr (by omega)) rfl ?_
          refine a_goto (tgt := 4) (kX6_friendsOf.at 25 rfl) (by decide) ?_
          exact ih ((j + 1)) ((iOr b 0)) (by omega) (by omega) (by rw [forR_succ hk0, ← e_b] <;> (clear ih kk e_b; first | (exfalso; omega) | rfl | (simp [*] <;> omega))) (by omega)
        · refine a_aload_n (kX6_friendsOf.at 12 rfl) 0 rfl ?_
          refine a_iload_n (kX6_friendsOf.at 13 rfl) 3 rfl ?_
          refine a_iload_n (kX6_friendsOf.at 14 rfl) 1 rfl ?_
          refine AW.callV (as := [vI j, vI k]) (st := [vI b]) (kX6_friendsOf.at 15 rfl) ml_X6_153 sv_X6_agree (k := 44) (io_44) rfl rfl ⟨Nat.le_of_ble_eq_true rfl, Nat.le_of_ble_eq_true rfl⟩ ⟨Nat.le_refl _, Nat.le_refl _⟩ rfl rfl (Nat.le_of_ble_eq_true rfl) (c_agree G M j k (by omega) (by omega)) (kIE ?_)
          refine a_ifeqB (tgt := 33) (kX6_friendsOf.at 16 rfl) (by decide) (fun h24 => ?_) (fun h24 => ?_)
          · refine a_iconst (kX6_friendsOf.at 21 rfl) rfl ?_
            refine a_ior (kX6_friendsOf.at 22 rfl) ?_
            refine a_istore_n (ls' := [(0, vR 44), (1, vI k), (2, vI (iOr b 0)), (3, vI j)]) (kX6_friendsOf.at 23 rfl) (by decide) rfl ?_
            refine a_iinc (ls' := [(0, vR 44), (1, vI k), (2, vI (iOr b 0)), (3, vI (j + 1))]) (kX6_friendsOf.at 24 rfl) 3 rfl (by decide) (inr (by omega)) rfl ?_
            refine a_goto (tgt := 4) (kX6_friendsOf.at 25 rfl) (by decide) ?_
            exact ih ((j + 1)) ((iOr b 0)) (by omega) (by omega) (by rw [forR_succ hk0, ← e_b] <;> (clear ih kk e_b; first | (exfalso; omega) | rfl | (simp [*] <;> omega))) (by omega)
          · refine a_iconst (kX6_friendsOf.at 17 rfl) rfl ?_
            refine a_iload_n (kX6_friendsOf.at 18 rfl) 3 rfl ?_
            refine a_ishl (kX6_friendsOf.at 19 rfl) ?_
            refine a_goto (tgt := 34) (kX6_friendsOf.at 20 rfl) (by decide) ?_
            refine a_ior (kX6_friendsOf.at 22 rfl) ?_
            refine a_istore_n (ls' := [(0, vR 44), (1, vI k), (2, vI (iOr b (iShl 1 j))), (3, vI j)]) (kX6_friendsOf.at 23 rfl) (by decide) rfl ?_
            refine a_iinc (ls' := [(0, vR 44), (1, vI k), (2, vI (iOr b (iShl 1 j))), (3, vI (j + 1))]) (kX6_friendsOf.at 24 rfl) 3 rfl (by decide) (inr (by omega)) rfl ?_
            refine a_goto (tgt := 4) (kX6_friendsOf.at 25 rfl) (by decide) ?_
            exact ih ((j + 1)) ((iOr b (iShl 1 j))) (by omega) (by omega) (by rw [forR_succ hk0, ← e_b] <;> (clear ih kk e_b; first | (exfalso; omega) | rfl | (simp [*] <;> omega))) (by omega)
  exact key ((M 44 7) - (0) + 1 : Int).toNat (0) 0 (Int.le_refl _) hlohi (forR_nil (Int.le_refl _)).symm  (by omega)
theorem c_friendsOf (G : GT) (M : Mem) (k : Int) (hp : 0 ≤ M 44 7 ∧ M 44 7 ≤ 8) (hk : 0 ≤ k ∧ k ≤ 7) : AM G yX6_friendsOf cX6_friendsOf 4 (some .int) 1 M [vR 44, vI k] (qI (friendsOf M k) M) := by
  refine AM.mk (own := RX6) rfl sv_X6_friendsOf.1.2.2.2.2.2 (Nat.le_of_ble_eq_true rfl) rfl ?_
  refine a_iconst (kX6_friendsOf.at 0 rfl) rfl ?_
  refine a_istore_n (ls' := [(0, vR 44), (1, vI k), (2, vI 0)]) (kX6_friendsOf.at 1 rfl) (by decide) rfl ?_
  refine a_iconst (kX6_friendsOf.at 2 rfl) rfl ?_
  refine a_istore_n (ls' := [(0, vR 44), (1, vI k), (2, vI 0), (3, vI 0)]) (kX6_friendsOf.at 3 rfl) (by decide) rfl ?_
  refine l_friendsOf G M k _ hp hk hp.1 ?_
  show AW _ _ _ _ _ _ 42 [(0, vR 44), (1, vI k), (2, vI (friendsOf M k)), (3, vI (M 44 7))] [] M
  refine a_iload_n (kX6_friendsOf.at 26 rfl) 2 rfl ?_
  exact a_iretE (kX6_friendsOf.at 27 rfl) (⟨rfl, rfl⟩)
noncomputable def o_friends (M : Mem) (k : Int) : Int := if 0 ≤ k ∧ k ≤ find M 44 7 - 1 then friendsOf (find M) k else -2
theorem c_friends (G : GT) (M : Mem) (k : Int) (hI : MI M) : AM G yX6_friends cX6_friends 2 (some .int) 6 M [vR 44, vI k] (qI (o_friends M k) (find M)) := by
  refine AM.mk (own := RX6) rfl sv_X6_friends.1.2.2.2.2.2 (Nat.le_of_ble_eq_true rfl) rfl ?_
  have hp := find_pr M hI
  refine a_aload_n (kX6_friends.at 0 rfl) 0 rfl ?_
  refine AW.callV (as := []) (st := []) (kX6_friends.at 1 rfl) ml_X6_203 sv_X6_find (k := 44) (io_44) rfl rfl ⟨Nat.le_of_ble_eq_true rfl, Nat.le_of_ble_eq_true rfl⟩ ⟨Nat.le_refl _, Nat.le_refl _⟩ rfl rfl (Nat.le_of_ble_eq_true rfl) (c_find G M hI) (kVE ?_)
  refine a_aload_n (kX6_friends.at 2 rfl) 0 rfl ?_
  refine a_iload_n (kX6_friends.at 3 rfl) 1 rfl ?_
  refine AW.callV (as := [vI k]) (st := []) (kX6_friends.at 4 rfl) ml_X6_125 sv_X6_isPerson (k := 44) (io_44) rfl rfl ⟨Nat.le_of_ble_eq_true rfl, Nat.le_of_ble_eq_true rfl⟩ ⟨Nat.le_refl _, Nat.le_refl _⟩ rfl rfl (Nat.le_of_ble_eq_true rfl) (c_isPerson G (find M) k (by omega)) (kIE ?_)
  refine a_ifeqB (tgt := 20) (kX6_friends.at 5 rfl) (by decide) (fun h9 => ?_) (fun h9 => ?_)
  · refine a_bipush (kX6_friends.at 10 rfl) rfl rfl ?_
    exact a_iretE (kX6_friends.at 11 rfl) (by first | (exfalso; omega) | (unfold o_friends; (repeat' split) <;> first | (exfalso; omega) | exact ⟨rfl, rfl⟩))
  · refine a_aload_n (kX6_friends.at 6 rfl) 0 rfl ?_
    refine a_iload_n (kX6_friends.at 7 rfl) 1 rfl ?_
    refine AW.callV (as := [vI k]) (st := []) (kX6_friends.at 8 rfl) ml_X6_237 sv_X6_friendsOf (k := 44) (io_44) rfl rfl ⟨Nat.le_of_ble_eq_true rfl, Nat.le_of_ble_eq_true rfl⟩ ⟨Nat.le_refl _, Nat.le_refl _⟩ rfl rfl (Nat.le_of_ble_eq_true rfl) (c_friendsOf G (find M) k hp (by omega)) (kIE ?_)
    refine a_goto (tgt := 22) (kX6_friends.at 9 rfl) (by decide) ?_
    exact a_iretE (kX6_friends.at 11 rfl) (by first | (exfalso; omega) | (unfold o_friends; (repeat' split) <;> first | (exfalso; omega) | exact ⟨rfl, rfl⟩))
/-! ===== the reference: plans ===== -/
noncomputable def ifF (M : Mem) (k h : Int) : Int → Int → Int := fun j is => if is ≠ 0 ∧ (j = k ∨ M 50 (3 * j + 2) ≠ h) then 1 else 0
noncomputable def isFree (M : Mem) (k h : Int) : Int := forR 0 (M 44 7) (ifF M k h) 1
set_option maxHeartbeats 4000000 in
set_option maxRecDepth 100000 in
theorem l_isFree (G : GT) (M : Mem) (k h : Int) (X : XT) (hp : 0 ≤ M 44 7 ∧ M 44 7 ≤ 8) (hlohi : (0 : Int) ≤ (M 44 7)) (kk : ((forR 0 (M 44 7) (ifF M k h) 1) = 0 ∨ (forR 0 (M 44 7) (ifF M k h) 1) = 1) → AW G RX6 cX6_isFree 5 (some .boolean) X 51 [(0, vR 44), (1, vI k), (2, vI h), (3, vI (forR 0 (M 44 7) (ifF M k h) 1)), (4, vI (M 44 7))] [] M) : AW G RX6 cX6_isFree 5 (some .boolean) X 5 [(0, vR 44), (1, vI k), (2, vI h), (3, vI 1), (4, vI 0)] [] M := by
  have key : ∀ (nn : Nat) (j : Int) (is : Int), (0 : Int) ≤ j → j ≤ (M 44 7) → is = forR 0 j (ifF M k h) 1 → (is = 0 ∨ is = 1) → (M 44 7) - j < nn → AW G RX6 cX6_isFree 5 (some .boolean) X 5 [(0, vR 44), (1, vI k), (2, vI h), (3, vI is), (4, vI j)] [] M := by
    intro nn
    induction nn with
    | zero => intro j is hk0 hk1 e_is hb hn; omega
    | succ nn ih =>
      intro j is hk0 hk1 e_is hb hn
      refine a_iload (kX6_isFree.at 4 rfl) 4 rfl ?_
      refine a_aload_n (kX6_isFree.at 5 rfl) 0 rfl ?_
      refine a_getI (x := M 44 7) (kX6_isFree.at 6 rfl) fg_X6_105 ii_44_7 (rfl) ?_
      refine a_icmpge (tgt := 51) (kX6_isFree.at 7 rfl) (by decide) (fun h11 => ?_) (fun h11 => ?_)
      · obtain rfl : j = M 44 7 := by omega
        subst e_is
        exact kk hb
      · refine a_iload_n (kX6_isFree.at 8 rfl) 3 rfl ?_
        refine a_ifeq (tgt := 43) (kX6_isFree.at 9 rfl) (by decide) (fun h15 => ?_) (fun h15 => ?_)
        · refine a_iconst (kX6_isFree.at 25 rfl) rfl ?_
          refine a_istore_n (ls' := [(0, vR 44), (1, vI k), (2, vI h), (3, vI 0), (4, vI j)]) (kX6_isFree.at 26 rfl) (by decide) rfl ?_
          refine a_iinc (ls' := [(0, vR 44), (1, vI k), (2, vI h), (3, vI 0), (4, vI (j + 1))]) (kX6_isFree.at 27 rfl) 4 rfl (by decide) (inr (by omega)) rfl ?_
          refine a_goto (tgt := 5) (kX6_isFree.at 28 rfl) (by decide) ?_
          exact ih ((j + 1)) (0) (by omega) (by omega) (by rw [forR_succ hk0, ← e_is] <;> (clear ih kk e_is; first | (exfalso; omega) | (unfold ifF; simp [*]))) (by omega) (by omega)
        · refine a_iload (kX6_isFree.at 10 rfl) 4 rfl ?_
          refine a_iload_n (kX6_isFree.at 11 rfl) 1 rfl ?_
          refine a_icmpeq (tgt := 39) (kX6_isFree.at 12 rfl) (by decide) (fun h21 => ?_) (fun h21 => ?_)
          · refine a_iconst (kX6_isFree.at 23 rfl) rfl ?_
            refine a_goto (tgt := 44) (kX6_isFree.at 24 rfl) (by decide) ?_
            refine a_istore_n (ls' := [(0, vR 44), (1, vI k), (2, vI h), (3, vI 1), (4, vI j)]) (kX6_isFree.at 26 rfl) (by decide) rfl ?_
            refine a_iinc (ls' := [(0, vR 44), (1, vI k), (2, vI h), (3, vI 1), (4, vI (j + 1))]) (kX6_isFree.at 27 rfl) 4 rfl (by decide) (inr (by omega)) rfl ?_
            refine a_goto (tgt := 5) (kX6_isFree.at 28 rfl) (by decide) ?_
            exact ih ((j + 1)) (1) (by omega) (by omega) (by rw [forR_succ hk0, ← e_is] <;> (clear ih kk e_is; first | (exfalso; omega) | (unfold ifF; simp [*]))) (by omega) (by omega)
          · refine a_aload_n (kX6_isFree.at 13 rfl) 0 rfl ?_
            refine a_getR (kX6_isFree.at 14 rfl) fg_X6_25 ir_44_8 ?_
            refine a_iconst (kX6_isFree.at 15 rfl) rfl ?_
            refine a_iload (kX6_isFree.at 16 rfl) 4 rfl ?_
            refine a_imul (kX6_isFree.at 17 rfl) (inr (by omega)) ?_
            refine a_iconst (kX6_isFree.at 18 rfl) rfl ?_
            refine a_iadd (kX6_isFree.at 19 rfl) (inr (by omega)) ?_
            refine a_iald (x := M 50 ((3 * j) + 2)) (kX6_isFree.at 20 rfl) (ia_50) (by omega) (rfl) ?_
            refine a_iload_n (kX6_isFree.at 21 rfl) 2 rfl ?_
            refine a_icmpeq (tgt := 43) (kX6_isFree.at 22 rfl) (by decide) (fun h36 => ?_) (fun h36 => ?_)
            · refine a_iconst (kX6_isFree.at 25 rfl) rfl ?_
              refine a_istore_n (ls' := [(0, vR 44), (1, vI k), (2, vI h), (3, vI 0), (4, vI j)]) (kX6_isFree.at 26 rfl) (by decide) rfl ?_
              refine a_iinc (ls' := [(0, vR 44), (1, vI k), (2, vI h), (3, vI 0), (4, vI (j + 1))]) (kX6_isFree.at 27 rfl) 4 rfl (by decide) (inr (by omega)) rfl ?_
              refine a_goto (tgt := 5) (kX6_isFree.at 28 rfl) (by decide) ?_
              exact ih ((j + 1)) (0) (by omega) (by omega) (by rw [forR_succ hk0, ← e_is] <;> (clear ih kk e_is; first | (exfalso; omega) | (unfold ifF; simp [*]))) (by omega) (by omega)
            · refine a_iconst (kX6_isFree.at 23 rfl) rfl ?_
              refine a_goto (tgt := 44) (kX6_isFree.at 24 rfl) (by decide) ?_
              refine a_istore_n (ls' := [(0, vR 44), (1, vI k), (2, vI h), (3, vI 1), (4, vI j)]) (kX6_isFree.at 26 rfl) (by decide) rfl ?_
              refine a_iinc (ls' := [(0, vR 44), (1, vI k), (2, vI h), (3, vI 1), (4, vI (j + 1))]) (kX6_isFree.at 27 rfl) 4 rfl (by decide) (inr (by omega)) rfl ?_
              refine a_goto (tgt := 5) (kX6_isFree.at 28 rfl) (by decide) ?_
              exact ih ((j + 1)) (1) (by omega) (by omega) (by rw [forR_succ hk0, ← e_is] <;> (clear ih kk e_is; first | (exfalso; omega) | (unfold ifF; simp [*]))) (by omega) (by omega)
  exact key ((M 44 7) - (0) + 1 : Int).toNat (0) 1 (Int.le_refl _) hlohi (forR_nil (Int.le_refl _)).symm (Or.inr rfl) (by omega)
theorem c_isFree (G : GT) (M : Mem) (k h : Int) (hp : 0 ≤ M 44 7 ∧ M 44 7 ≤ 8) : AM G yX6_isFree cX6_isFree 5 (some .boolean) 0 M [vR 44, vI k, vI h] (qI (isFree M k h) M) := by
  refine AM.mk (own := RX6) rfl sv_X6_isFree.1.2.2.2.2.2 (Nat.le_of_ble_eq_true rfl) rfl ?_
  refine a_iconst (kX6_isFree.at 0 rfl) rfl ?_
  refine a_istore_n (ls' := [(0, vR 44), (1, vI k), (2, vI h), (3, vI 1)]) (kX6_isFree.at 1 rfl) (by decide) rfl ?_
  refine a_iconst (kX6_isFree.at 2 rfl) rfl ?_
  refine a_istore (ls' := [(0, vR 44), (1, vI k), (2, vI h), (3, vI 1), (4, vI 0)]) (kX6_isFree.at 3 rfl) (by decide) rfl ?_
  refine l_isFree G M k h _ hp (by omega) ?_
  intro hb
  show AW _ _ _ _ _ _ 51 [(0, vR 44), (1, vI k), (2, vI h), (3, vI (isFree M k h)), (4, vI (M 44 7))] [] M
  change isFree M k h = 0 ∨ isFree M k h = 1 at hb
  refine a_iload_n (kX6_isFree.at 29 rfl) 3 rfl ?_
  exact a_zretE (kX6_isFree.at 30 rfl) (by first | exact Or.inl rfl | exact Or.inr rfl | omega) (⟨rfl, rfl⟩)
/-- what lives() needs -/
noncomputable def LI (M : Mem) : Prop := PG M ∧ (0 ≤ M 44 9 ∧ M 44 9 ≤ 8)
theorem LI.Fr {M N : Mem} (h : LI M) (hF : Fr M N) : LI N := by
  have e7 := hF.people
  have e9 := hF 44 9 (by omega) (by omega)
  refine ⟨⟨by rw [e7]; exact h.1.1, fun k a b => ?_⟩, by rw [e9]; exact h.2⟩
  rw [hF 50 (3 * k + 2) (by omega) (by omega)]
  exact h.1.2 k a (by rw [e7] at b; exact b)
theorem LI.lives {M : Mem} (h : LI M) : LI (lives M) := h.Fr (Fr_lives M)
theorem LI.house {M : Mem} (h : LI M) {k v : Int} (hv : 0 ≤ v ∧ v ≤ 9) : LI (upm M 50 (3 * k + 2) v) := by
  refine ⟨⟨h.1.1, fun j a b => ?_⟩, h.2⟩
  have := h.1.2 j a b
  show 0 ≤ ups (M 50) (3 * k + 2) v (3 * j + 2) ∧ ups (M 50) (3 * k + 2) v (3 * j + 2) ≤ 9
  unfold ups
  split <;> omega
theorem LI.views {M : Mem} (h : LI M) {k v : Int} : LI (upm M 50 (3 * k + 1) v) := by
  refine ⟨⟨h.1.1, fun j a b => ?_⟩, h.2⟩
  have := h.1.2 j a b
  show 0 ≤ ups (M 50) (3 * k + 1) v (3 * j + 2) ∧ ups (M 50) (3 * k + 1) v (3 * j + 2) ≤ 9
  rw [ups_ne (by omega)]
  exact this
theorem LI.sort {M : Mem} (h : LI M) {k v : Int} : LI (upm M 50 (3 * k) v) := by
  refine ⟨⟨h.1.1, fun j a b => ?_⟩, h.2⟩
  have := h.1.2 j a b
  show 0 ≤ ups (M 50) (3 * k) v (3 * j + 2) ∧ ups (M 50) (3 * k) v (3 * j + 2) ≤ 9
  rw [ups_ne (by omega)]
  exact this
theorem LI.fld {M : Mem} (h : LI M) {j v : Int} (hj : j ≠ 7 ∧ j ≠ 9) : LI (upm M 44 j v) := by
  have e7 : upm M 44 j v 44 7 = M 44 7 := rd_ni (by omega)
  have e9 : upm M 44 j v 44 9 = M 44 9 := rd_ni (by omega)
  exact ⟨⟨by rw [e7]; exact h.1.1, fun k a b => h.1.2 k a (by rw [e7] at b; exact b)⟩, by rw [e9]; exact h.2⟩
