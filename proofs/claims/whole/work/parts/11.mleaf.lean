/-! ===== the reference: leaves ===== -/
theorem c_in (G : GT) (M : Mem) (v lo hi : Int) : AM G yX6_in cX6_in 6 (some .boolean) 0 M [vL v, vL lo, vL hi] (qI (bI (lo ≤ v ∧ v ≤ hi)) M) := by
  refine AM.mk (own := RX6) rfl ss_X6_in.1.2.2.2.2.2 (Nat.le_of_ble_eq_true rfl) rfl ?_
  refine a_lload_n (kX6_in.at 0 rfl) 0 rfl ?_
  refine a_lload_n (kX6_in.at 1 rfl) 1 rfl ?_
  refine a_lcmp (kX6_in.at 2 rfl) ?_
  refine a_iflt (tgt := 17) (kX6_in.at 3 rfl) (by decide) (fun h3 => ?_) (fun h3 => ?_)
  · rw [cmpI_lt] at h3
    refine a_iconst (kX6_in.at 10 rfl) rfl ?_
    exact a_zretE (kX6_in.at 11 rfl) (by first | exact Or.inl rfl | exact Or.inr rfl | omega) (⟨by simp [bI]; omega, rfl⟩)
  · rw [cmpI_lt] at h3
    refine a_lload_n (kX6_in.at 4 rfl) 0 rfl ?_
    refine a_lload (kX6_in.at 5 rfl) 2 rfl ?_
    refine a_lcmp (kX6_in.at 6 rfl) ?_
    refine a_ifgt (tgt := 17) (kX6_in.at 7 rfl) (by decide) (fun h10 => ?_) (fun h10 => ?_)
    · rw [cmpI_gt] at h10
      refine a_iconst (kX6_in.at 10 rfl) rfl ?_
      exact a_zretE (kX6_in.at 11 rfl) (by first | exact Or.inl rfl | exact Or.inr rfl | omega) (⟨by simp [bI]; omega, rfl⟩)
    · rw [cmpI_gt] at h10
      refine a_iconst (kX6_in.at 8 rfl) rfl ?_
      refine a_goto (tgt := 18) (kX6_in.at 9 rfl) (by decide) ?_
      exact a_zretE (kX6_in.at 11 rfl) (by first | exact Or.inl rfl | exact Or.inr rfl | omega) (⟨by simp [bI]; omega, rfl⟩)
theorem c_isTwo (G : GT) (M : Mem) (v : Int) : AM G yX6_isTwo cX6_isTwo 1 (some .boolean) 1 M [vI v] (qI (bI (0 ≤ v ∧ v ≤ 1)) M) := by
  refine AM.mk (own := RX6) rfl ss_X6_isTwo.1.2.2.2.2.2 (Nat.le_of_ble_eq_true rfl) rfl ?_
  refine a_iload_n (kX6_isTwo.at 0 rfl) 0 rfl ?_
  refine a_i2l (kX6_isTwo.at 1 rfl) ?_
  refine a_lconst (kX6_isTwo.at 2 rfl) 0 rfl rfl ?_
  refine a_lconst (kX6_isTwo.at 3 rfl) 1 rfl rfl ?_
  refine AW.callS (as := [vL v, vL 0, vL 1]) (st := []) (kX6_isTwo.at 4 rfl) ml_X6_70 ss_X6_in ⟨Nat.le_of_ble_eq_true rfl, Nat.le_of_ble_eq_true rfl⟩ ⟨Nat.le_refl _, Nat.le_refl _⟩ rfl rfl (Nat.le_of_ble_eq_true rfl) (c_in G M v 0 1) (kIE ?_)
  exact a_zretE (kX6_isTwo.at 5 rfl) (bI_r _) (⟨rfl, rfl⟩)
def whoIn (M : Mem) (h : Int) : Int := forR 0 (M 44 7) (fun k w => if M 52 k = h then k else w) (-1)
set_option maxHeartbeats 4000000 in
set_option maxRecDepth 100000 in
theorem l_whoIn (G : GT) (M : Mem) (h : Int) (X : XT) (hp : 0 ≤ M 44 7 ∧ M 44 7 ≤ 8) (hlohi : 0 ≤ (M 44 7)) (kk : AW G RX6 cX6_whoIn 4 (some .int) X 34 [(0, vR 44), (1, vI h), (2, vI (forR 0 (M 44 7) (fun k w => if M 52 k = h then k else w) (-1))), (3, vI (M 44 7))] [] M) : AW G RX6 cX6_whoIn 4 (some .int) X 4 [(0, vR 44), (1, vI h), (2, vI (-1)), (3, vI 0)] [] M := by
  have key : ∀ (n : Nat) (k : Int) (w : Int), 0 ≤ k → k ≤ (M 44 7) → w = forR 0 k (fun k w => if M 52 k = h then k else w) (-1) → (M 44 7) - k < n → AW G RX6 cX6_whoIn 4 (some .int) X 4 [(0, vR 44), (1, vI h), (2, vI w), (3, vI k)] [] M := by
    intro n
    induction n with
    | zero => intro k w hk0 hk1 e_w  hn; omega
    | succ n ih =>
      intro k w hk0 hk1 e_w  hn
      refine a_iload_n (kX6_whoIn.at 4 rfl) 3 rfl ?_
      refine a_aload_n (kX6_whoIn.at 5 rfl) 0 rfl ?_
      refine a_getI (x := M 44 7) (kX6_whoIn.at 6 rfl) fg_X6_105 ii_44_7 (rfl) ?_
      refine a_icmpge (tgt := 34) (kX6_whoIn.at 7 rfl) (by decide) (fun h9 => ?_) (fun h9 => ?_)
      · obtain rfl : k = M 44 7 := by omega
        subst e_w
        exact kk 
      · refine a_aload_n (kX6_whoIn.at 8 rfl) 0 rfl ?_
        refine a_getR (kX6_whoIn.at 9 rfl) fg_X6_31 ir_44_15 ?_
        refine a_iload_n (kX6_whoIn.at 10 rfl) 3 rfl ?_
        refine a_iald (x := M 52 k) (kX6_whoIn.at 11 rfl) (ia_52) (by omega) (rfl) ?_
        refine a_iload_n (kX6_whoIn.at 12 rfl) 1 rfl ?_
        refine a_icmpne (tgt := 26) (kX6_whoIn.at 13 rfl) (by decide) (fun h19 => ?_) (fun h19 => ?_)
        · refine a_iload_n (kX6_whoIn.at 16 rfl) 2 rfl ?_
          refine a_istore_n (ls' := [(0, vR 44), (1, vI h), (2, vI w), (3, vI k)]) (kX6_whoIn.at 17 rfl) (by decide) rfl ?_
          refine a_iinc (ls' := [(0, vR 44), (1, vI h), (2, vI w), (3, vI (k + 1))]) (kX6_whoIn.at 18 rfl) 3 rfl (by decide) (inr (by omega)) rfl ?_
          refine a_goto (tgt := 4) (kX6_whoIn.at 19 rfl) (by decide) ?_
          exact ih ((k + 1)) (w) (by omega) (by omega) (by rw [forR_succ hk0, ← e_w]; first | rfl | simp [*]) (by omega)
        · refine a_iload_n (kX6_whoIn.at 14 rfl) 3 rfl ?_
          refine a_goto (tgt := 27) (kX6_whoIn.at 15 rfl) (by decide) ?_
          refine a_istore_n (ls' := [(0, vR 44), (1, vI h), (2, vI k), (3, vI k)]) (kX6_whoIn.at 17 rfl) (by decide) rfl ?_
          refine a_iinc (ls' := [(0, vR 44), (1, vI h), (2, vI k), (3, vI (k + 1))]) (kX6_whoIn.at 18 rfl) 3 rfl (by decide) (inr (by omega)) rfl ?_
          refine a_goto (tgt := 4) (kX6_whoIn.at 19 rfl) (by decide) ?_
          exact ih ((k + 1)) (k) (by omega) (by omega) (by rw [forR_succ hk0, ← e_w]; first | rfl | simp [*]) (by omega)
  exact key ((M 44 7) - (0) + 1).toNat (0) (-1) (Int.le_refl _) hlohi (forR_nil (Int.le_refl _)).symm  (by omega)
theorem c_whoIn (G : GT) (M : Mem) (h : Int) (hp : 0 ≤ M 44 7 ∧ M 44 7 ≤ 8) : AM G yX6_whoIn cX6_whoIn 4 (some .int) 0 M [vR 44, vI h] (qI (whoIn M h) M) := by
  refine AM.mk (own := RX6) rfl sv_X6_whoIn.1.2.2.2.2.2 (Nat.le_of_ble_eq_true rfl) rfl ?_
  refine a_iconst (kX6_whoIn.at 0 rfl) rfl ?_
  refine a_istore_n (ls' := [(0, vR 44), (1, vI h), (2, vI (-1))]) (kX6_whoIn.at 1 rfl) (by decide) rfl ?_
  refine a_iconst (kX6_whoIn.at 2 rfl) rfl ?_
  refine a_istore_n (ls' := [(0, vR 44), (1, vI h), (2, vI (-1)), (3, vI 0)]) (kX6_whoIn.at 3 rfl) (by decide) rfl ?_
  refine l_whoIn G M h _ hp (by omega) ?_
  show AW _ _ _ _ _ _ 34 [(0, vR 44), (1, vI h), (2, vI (whoIn M h)), (3, vI (M 44 7))] [] M
  refine a_iload_n (kX6_whoIn.at 20 rfl) 2 rfl ?_
  exact a_iretE (kX6_whoIn.at 21 rfl) (⟨rfl, rfl⟩)
