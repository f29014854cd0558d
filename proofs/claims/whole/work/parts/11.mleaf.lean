/-! ===== the reference: leaves ===== -/
theorem c_in (G : GT) (M : Mem) (v lo hi : Int) : AM G yX6_in cX6_in 6 (some .boolean) 0 M [vL v, vL lo, vL hi] (qI (bI (lo ≤ v ∧ v ≤ hi)) M) := by
  refine AM.mk (own := RX6) rfl ss_X6_in.1.2.2.2.2.2 (Nat.le_of_ble_eq_true rfl) rfl ?_
  refine a_lload_n (kX6_in.at 0 rfl) 0 rfl ?_
  refine a_lload_n (kX6_in.at 1 rfl) 1 rfl ?_
  refine a_lcmp (kX6_in.at 2 rfl) ?_
  refine a_iflt (tgt := 17) (kX6_in.at 3 rfl) (by decide) (fun h3 => ?_) (fun h3 => ?_)
  · rw [cmpI_lt] at h3
    refine a_iconst (kX6_in.at 10 rfl) rfl ?_
    exact a_zretE (kX6_in.at 11 rfl) (by first | exact Or.inl rfl | exact Or.inr rfl | omega) (⟨by simp [bI]; omega, rfl⟩)
  · rw [cmpI_lt] at h3
    refine a_lload_n (kX6_in.at 4 rfl) 0 rfl ?_
    refine a_lload (kX6_in.at 5 rfl) 2 rfl ?_
    refine a_lcmp (kX6_in.at 6 rfl) ?_
    refine a_ifgt (tgt := 17) (kX6_in.at 7 rfl) (by decide) (fun h10 => ?_) (fun h10 => ?_)
    · rw [cmpI_gt] at h10
      refine a_iconst (kX6_in.at 10 rfl) rfl ?_
      exact a_zretE (kX6_in.at 11 rfl) (by first | exact Or.inl rfl | exact Or.inr rfl | omega) (⟨by simp [bI]; omega, rfl⟩)
    · rw [cmpI_gt] at h10
      refine a_iconst (kX6_in.at 8 rfl) rfl ?_
      refine a_goto (tgt := 18) (kX6_in.at 9 rfl) (by decide) ?_
      exact a_zretE (kX6_in.at 11 rfl) (by first | exact Or.inl rfl | exact Or.inr rfl | omega) (⟨by simp [bI]; omega, rfl⟩)
theorem c_no (G : GT) (M : Mem) (v : Int) : AM G yX6_no cX6_no 1 (some .long) 0 M [vI v] (qL (wL ((-9223372036854775808) - v)) M) := by
  refine AM.mk (own := RX6) rfl ss_X6_no.1.2.2.2.2.2 (Nat.le_of_ble_eq_true rfl) rfl ?_
  refine a_ldc2 (kX6_no.at 0 rfl) cl_X6_68 (-9223372036854775808) rfl ⟨by decide, by decide⟩ ?_
  refine a_iload_n (kX6_no.at 1 rfl) 0 rfl ?_
  refine a_i2l (kX6_no.at 2 rfl) ?_
  refine a_lsub (kX6_no.at 3 rfl) ?_
  exact a_lretE (kX6_no.at 4 rfl) (⟨rfl, rfl⟩)
theorem c_isTwo (G : GT) (M : Mem) (v : Int) : AM G yX6_isTwo cX6_isTwo 1 (some .boolean) 1 M [vI v] (qI (bI (0 ≤ v ∧ v ≤ 1)) M) := by
  refine AM.mk (own := RX6) rfl ss_X6_isTwo.1.2.2.2.2.2 (Nat.le_of_ble_eq_true rfl) rfl ?_
  refine a_iload_n (kX6_isTwo.at 0 rfl) 0 rfl ?_
  refine a_i2l (kX6_isTwo.at 1 rfl) ?_
  refine a_lconst (kX6_isTwo.at 2 rfl) 0 rfl rfl ?_
  refine a_lconst (kX6_isTwo.at 3 rfl) 1 rfl rfl ?_
  refine AW.callS (as := [vL v, vL 0, vL 1]) (st := []) (kX6_isTwo.at 4 rfl) ml_X6_70 ss_X6_in ⟨Nat.le_of_ble_eq_true rfl, Nat.le_of_ble_eq_true rfl⟩ ⟨Nat.le_refl _, Nat.le_refl _⟩ rfl rfl (Nat.le_of_ble_eq_true rfl) (c_in G M v 0 1) (kIE ?_)
  exact a_zretE (kX6_isTwo.at 5 rfl) (bI_r _) (⟨rfl, rfl⟩)
def isIn (b k : Int) : Bool := decide (iAnd (iShr b k) 1 = 1)
theorem c_isIn (G : GT) (M : Mem) (b k : Int) : AM G yX6_isIn cX6_isIn 2 (some .boolean) 0 M [vI b, vI k] (qI (bI (isIn b k = true)) M) := by
  refine AM.mk (own := RX6) rfl ss_X6_isIn.1.2.2.2.2.2 (Nat.le_of_ble_eq_true rfl) rfl ?_
  refine a_iload_n (kX6_isIn.at 0 rfl) 0 rfl ?_
  refine a_iload_n (kX6_isIn.at 1 rfl) 1 rfl ?_
  refine a_ishr (kX6_isIn.at 2 rfl) ?_
  refine a_iconst (kX6_isIn.at 3 rfl) rfl ?_
  refine a_iand (kX6_isIn.at 4 rfl) ?_
  refine a_iconst (kX6_isIn.at 5 rfl) rfl ?_
  refine a_icmpne (tgt := 13) (kX6_isIn.at 6 rfl) (by decide) (fun h6 => ?_) (fun h6 => ?_)
  · refine a_iconst (kX6_isIn.at 9 rfl) rfl ?_
    exact a_zretE (kX6_isIn.at 10 rfl) (by first | exact Or.inl rfl | exact Or.inr rfl | omega) (⟨by simp [bI, isIn, *], rfl⟩)
  · refine a_iconst (kX6_isIn.at 7 rfl) rfl ?_
    refine a_goto (tgt := 14) (kX6_isIn.at 8 rfl) (by decide) ?_
    exact a_zretE (kX6_isIn.at 10 rfl) (by first | exact Or.inl rfl | exact Or.inr rfl | omega) (⟨by simp [bI, isIn, *], rfl⟩)
def lesser (a b : Int) : Int := if a < b then a else b
def greater (a b : Int) : Int := if b < a then a else b
def apart (a b : Int) : Int := if b < a then a - b else b - a
theorem c_lesser (G : GT) (M : Mem) (a b : Int) : AM G yX6_lesser cX6_lesser 2 (some .int) 0 M [vI a, vI b] (qI (lesser a b) M) := by
  refine AM.mk (own := RX6) rfl ss_X6_lesser.1.2.2.2.2.2 (Nat.le_of_ble_eq_true rfl) rfl ?_
  refine a_iload_n (kX6_lesser.at 0 rfl) 0 rfl ?_
  refine a_iload_n (kX6_lesser.at 1 rfl) 1 rfl ?_
  refine a_icmpge (tgt := 9) (kX6_lesser.at 2 rfl) (by decide) (fun h2 => ?_) (fun h2 => ?_)
  · refine a_iload_n (kX6_lesser.at 5 rfl) 1 rfl ?_
    exact a_iretE (kX6_lesser.at 6 rfl) (⟨by unfold lesser; split <;> omega, rfl⟩)
  · refine a_iload_n (kX6_lesser.at 3 rfl) 0 rfl ?_
    refine a_goto (tgt := 10) (kX6_lesser.at 4 rfl) (by decide) ?_
    exact a_iretE (kX6_lesser.at 6 rfl) (⟨by unfold lesser; split <;> omega, rfl⟩)
theorem c_greater (G : GT) (M : Mem) (a b : Int) : AM G yX6_greater cX6_greater 2 (some .int) 0 M [vI a, vI b] (qI (greater a b) M) := by
  refine AM.mk (own := RX6) rfl ss_X6_greater.1.2.2.2.2.2 (Nat.le_of_ble_eq_true rfl) rfl ?_
  refine a_iload_n (kX6_greater.at 0 rfl) 0 rfl ?_
  refine a_iload_n (kX6_greater.at 1 rfl) 1 rfl ?_
  refine a_icmple (tgt := 9) (kX6_greater.at 2 rfl) (by decide) (fun h2 => ?_) (fun h2 => ?_)
  · refine a_iload_n (kX6_greater.at 5 rfl) 1 rfl ?_
    exact a_iretE (kX6_greater.at 6 rfl) (⟨by unfold greater; split <;> omega, rfl⟩)
  · refine a_iload_n (kX6_greater.at 3 rfl) 0 rfl ?_
    refine a_goto (tgt := 10) (kX6_greater.at 4 rfl) (by decide) ?_
    exact a_iretE (kX6_greater.at 6 rfl) (⟨by unfold greater; split <;> omega, rfl⟩)
theorem c_apart (G : GT) (M : Mem) (a b : Int) (ha : -100 ≤ a ∧ a ≤ 100) (hb : -100 ≤ b ∧ b ≤ 100) : AM G yX6_apart cX6_apart 2 (some .int) 0 M [vI a, vI b] (qI (apart a b) M) := by
  refine AM.mk (own := RX6) rfl ss_X6_apart.1.2.2.2.2.2 (Nat.le_of_ble_eq_true rfl) rfl ?_
  refine a_iload_n (kX6_apart.at 0 rfl) 0 rfl ?_
  refine a_iload_n (kX6_apart.at 1 rfl) 1 rfl ?_
  refine a_icmple (tgt := 11) (kX6_apart.at 2 rfl) (by decide) (fun h2 => ?_) (fun h2 => ?_)
  · refine a_iload_n (kX6_apart.at 7 rfl) 1 rfl ?_
    refine a_iload_n (kX6_apart.at 8 rfl) 0 rfl ?_
    refine a_isub (kX6_apart.at 9 rfl) (inr (by omega)) ?_
    exact a_iretE (kX6_apart.at 10 rfl) (⟨by unfold apart; split <;> omega, rfl⟩)
  · refine a_iload_n (kX6_apart.at 3 rfl) 0 rfl ?_
    refine a_iload_n (kX6_apart.at 4 rfl) 1 rfl ?_
    refine a_isub (kX6_apart.at 5 rfl) (inr (by omega)) ?_
    refine a_goto (tgt := 14) (kX6_apart.at 6 rfl) (by decide) ?_
    exact a_iretE (kX6_apart.at 10 rfl) (⟨by unfold apart; split <;> omega, rfl⟩)
theorem c_finds (G : GT) (M : Mem) (f : Int) (hf : 0 ≤ f ∧ f ≤ 5) : AM G yX6_finds cX6_finds 2 (some .int) 0 M [vR 44, vI f] (qI (-10 - f) (upm M 44 4 f)) := by
  refine AM.mk (own := RX6) rfl sv_X6_finds.1.2.2.2.2.2 (Nat.le_of_ble_eq_true rfl) rfl ?_
  refine a_aload_n (kX6_finds.at 0 rfl) 0 rfl ?_
  refine a_iload_n (kX6_finds.at 1 rfl) 1 rfl ?_
  refine a_putI (j := 4) (kX6_finds.at 2 rfl) fp_X6_74 (ii_44_4) rfl ?_
  refine a_bipush (kX6_finds.at 3 rfl) rfl rfl ?_
  refine a_iload_n (kX6_finds.at 4 rfl) 1 rfl ?_
  refine a_isub (kX6_finds.at 5 rfl) (inr (by omega)) ?_
  exact a_iretE (kX6_finds.at 6 rfl) (⟨rfl, rfl⟩)
theorem c_isSheet (G : GT) (M : Mem) (v : Int) : AM G yX6_isSheet cX6_isSheet 1 (some .boolean) 1 M [vI v] (qI (bI (0 ≤ v ∧ v ≤ 3)) M) := by
  refine AM.mk (own := RX6) rfl ss_X6_isSheet.1.2.2.2.2.2 (Nat.le_of_ble_eq_true rfl) rfl ?_
  refine a_iload_n (kX6_isSheet.at 0 rfl) 0 rfl ?_
  refine a_i2l (kX6_isSheet.at 1 rfl) ?_
  refine a_lconst (kX6_isSheet.at 2 rfl) 0 rfl rfl ?_
  refine a_ldc2 (kX6_isSheet.at 3 rfl) cl_X6_77 (3) rfl ⟨by decide, by decide⟩ ?_
  refine AW.callS (as := [vL v, vL 0, vL 3]) (st := []) (kX6_isSheet.at 4 rfl) ml_X6_70 ss_X6_in ⟨Nat.le_of_ble_eq_true rfl, Nat.le_of_ble_eq_true rfl⟩ ⟨Nat.le_refl _, Nat.le_refl _⟩ rfl rfl (Nat.le_of_ble_eq_true rfl) (c_in G M v 0 3) (kIE ?_)
  exact a_zretE (kX6_isSheet.at 5 rfl) (bI_r _) (⟨rfl, rfl⟩)
theorem c_isQuarter (G : GT) (M : Mem) (v : Int) : AM G yX6_isQuarter cX6_isQuarter 1 (some .boolean) 1 M [vI v] (qI (bI (0 ≤ v ∧ v ≤ 15)) M) := by
  refine AM.mk (own := RX6) rfl ss_X6_isQuarter.1.2.2.2.2.2 (Nat.le_of_ble_eq_true rfl) rfl ?_
  refine a_iload_n (kX6_isQuarter.at 0 rfl) 0 rfl ?_
  refine a_i2l (kX6_isQuarter.at 1 rfl) ?_
  refine a_lconst (kX6_isQuarter.at 2 rfl) 0 rfl rfl ?_
  refine a_ldc2 (kX6_isQuarter.at 3 rfl) cl_X6_121 (15) rfl ⟨by decide, by decide⟩ ?_
  refine AW.callS (as := [vL v, vL 0, vL 15]) (st := []) (kX6_isQuarter.at 4 rfl) ml_X6_70 ss_X6_in ⟨Nat.le_of_ble_eq_true rfl, Nat.le_of_ble_eq_true rfl⟩ ⟨Nat.le_refl _, Nat.le_refl _⟩ rfl rfl (Nat.le_of_ble_eq_true rfl) (c_in G M v 0 15) (kIE ?_)
  exact a_zretE (kX6_isQuarter.at 5 rfl) (bI_r _) (⟨rfl, rfl⟩)
theorem c_isHouse (G : GT) (M : Mem) (v : Int) : AM G yX6_isHouse cX6_isHouse 1 (some .boolean) 1 M [vI v] (qI (bI (0 ≤ v ∧ v ≤ 9)) M) := by
  refine AM.mk (own := RX6) rfl ss_X6_isHouse.1.2.2.2.2.2 (Nat.le_of_ble_eq_true rfl) rfl ?_
  refine a_iload_n (kX6_isHouse.at 0 rfl) 0 rfl ?_
  refine a_i2l (kX6_isHouse.at 1 rfl) ?_
  refine a_lconst (kX6_isHouse.at 2 rfl) 0 rfl rfl ?_
  refine a_ldc2 (kX6_isHouse.at 3 rfl) cl_X6_123 (9) rfl ⟨by decide, by decide⟩ ?_
  refine AW.callS (as := [vL v, vL 0, vL 9]) (st := []) (kX6_isHouse.at 4 rfl) ml_X6_70 ss_X6_in ⟨Nat.le_of_ble_eq_true rfl, Nat.le_of_ble_eq_true rfl⟩ ⟨Nat.le_refl _, Nat.le_refl _⟩ rfl rfl (Nat.le_of_ble_eq_true rfl) (c_in G M v 0 9) (kIE ?_)
  exact a_zretE (kX6_isHouse.at 5 rfl) (bI_r _) (⟨rfl, rfl⟩)
theorem c_isPerson (G : GT) (M : Mem) (v : Int) (hp : 0 ≤ M 44 7 ∧ M 44 7 ≤ 8) : AM G yX6_isPerson cX6_isPerson 2 (some .boolean) 1 M [vR 44, vI v] (qI (bI (0 ≤ v ∧ v ≤ M 44 7 - 1)) M) := by
  refine AM.mk (own := RX6) rfl sv_X6_isPerson.1.2.2.2.2.2 (Nat.le_of_ble_eq_true rfl) rfl ?_
  refine a_iload_n (kX6_isPerson.at 0 rfl) 1 rfl ?_
  refine a_i2l (kX6_isPerson.at 1 rfl) ?_
  refine a_lconst (kX6_isPerson.at 2 rfl) 0 rfl rfl ?_
  refine a_aload_n (kX6_isPerson.at 3 rfl) 0 rfl ?_
  refine a_getI (x := M 44 7) (kX6_isPerson.at 4 rfl) fg_X6_105 ii_44_7 (rfl) ?_
  refine a_iconst (kX6_isPerson.at 5 rfl) rfl ?_
  refine a_isub (kX6_isPerson.at 6 rfl) (inr (by omega)) ?_
  refine a_i2l (kX6_isPerson.at 7 rfl) ?_
  refine AW.callS (as := [vL v, vL 0, vL ((M 44 7) - 1)]) (st := []) (kX6_isPerson.at 8 rfl) ml_X6_70 ss_X6_in ⟨Nat.le_of_ble_eq_true rfl, Nat.le_of_ble_eq_true rfl⟩ ⟨Nat.le_refl _, Nat.le_refl _⟩ rfl rfl (Nat.le_of_ble_eq_true rfl) (c_in G M v 0 ((M 44 7) - 1)) (kIE ?_)
  exact a_zretE (kX6_isPerson.at 9 rfl) (bI_r _) (⟨rfl, rfl⟩)
def cut (f v : Int) : Int := if f = 0 then iB v else if f = 1 then iS v else v
theorem c_cut (G : GT) (M : Mem) (f v : Int) : AM G yX6_cut cX6_cut 2 (some .int) 0 M [vI f, vI v] (qI (cut f v) M) := by
  refine AM.mk (own := RX6) rfl ss_X6_cut.1.2.2.2.2.2 (Nat.le_of_ble_eq_true rfl) rfl ?_
  refine a_iload_n (kX6_cut.at 0 rfl) 0 rfl ?_
  refine a_ifne (tgt := 9) (kX6_cut.at 1 rfl) (by decide) (fun h1 => ?_) (fun h1 => ?_)
  · refine a_iload_n (kX6_cut.at 5 rfl) 0 rfl ?_
    refine a_iconst (kX6_cut.at 6 rfl) rfl ?_
    refine a_icmpne (tgt := 19) (kX6_cut.at 7 rfl) (by decide) (fun h11 => ?_) (fun h11 => ?_)
    · refine a_iload_n (kX6_cut.at 11 rfl) 1 rfl ?_
      exact a_iretE (kX6_cut.at 12 rfl) (⟨by simp [cut, *], rfl⟩)
    · refine a_iload_n (kX6_cut.at 8 rfl) 1 rfl ?_
      refine a_i2s (kX6_cut.at 9 rfl) ?_
      refine a_goto (tgt := 20) (kX6_cut.at 10 rfl) (by decide) ?_
      exact a_iretE (kX6_cut.at 12 rfl) (⟨by simp [cut, *], rfl⟩)
  · refine a_iload_n (kX6_cut.at 2 rfl) 1 rfl ?_
    refine a_i2b (kX6_cut.at 3 rfl) ?_
    refine a_goto (tgt := 20) (kX6_cut.at 4 rfl) (by decide) ?_
    exact a_iretE (kX6_cut.at 12 rfl) (⟨by simp [cut, *], rfl⟩)
def whoIn (M : Mem) (h : Int) : Int := forR 0 (M 44 7) (fun k w => if M 52 k = h then k else w) (-1)
set_option maxHeartbeats 4000000 in
set_option maxRecDepth 100000 in
theorem l_whoIn (G : GT) (M : Mem) (h : Int) (X : XT) (hp : 0 ≤ M 44 7 ∧ M 44 7 ≤ 8) (hlohi : (0 : Int) ≤ (M 44 7)) (kk : AW G RX6 cX6_whoIn 4 (some .int) X 34 [(0, vR 44), (1, vI h), (2, vI (forR 0 (M 44 7) (fun k w => if M 52 k = h then k else w) (-1))), (3, vI (M 44 7))] [] M) : AW G RX6 cX6_whoIn 4 (some .int) X 4 [(0, vR 44), (1, vI h), (2, vI (-1)), (3, vI 0)] [] M := by
  have key : ∀ (nn : Nat) (k : Int) (w : Int), (0 : Int) ≤ k → k ≤ (M 44 7) → w = forR 0 k (fun k w => if M 52 k = h then k else w) (-1) → (M 44 7) - k < nn → AW G RX6 cX6_whoIn 4 (some .int) X 4 [(0, vR 44), (1, vI h), (2, vI w), (3, vI k)] [] M := by
    intro nn
    induction nn with
    | zero => intro k w hk0 hk1 e_w  hn; omega
    | succ nn ih =>
      intro k w hk0 hk1 e_w  hn
      refine a_iload_n (kX6_whoIn.at 4 rfl) 3 rfl ?_
      refine a_aload_n (kX6_whoIn.at 5 rfl) 0 rfl ?_
      refine a_getI (x := M 44 7) (kX6_whoIn.at 6 rfl) fg_X6_105 ii_44_7 (rfl) ?_
      refine a_icmpge (tgt := 34) (kX6_whoIn.at 7 rfl) (by decide) (fun h9 => ?_) (fun h9 => ?_)
      · obtain rfl : k = M 44 7 := by omega
        subst e_w
        exact kk 
      · refine a_aload_n (kX6_whoIn.at 8 rfl) 0 rfl ?_
        refine a_getR (kX6_whoIn.at 9 rfl) fg_X6_31 ir_44_15 ?_
        refine a_iload_n (kX6_whoIn.at 10 rfl) 3 rfl ?_
        refine a_iald (x := M 52 k) (kX6_whoIn.at 11 rfl) (ia_52) (by omega) (rfl) ?_
        refine a_iload_n (kX6_whoIn.at 12 rfl) 1 rfl ?_
        refine a_icmpne (tgt := 26) (kX6_whoIn.at 13 rfl) (by decide) (fun h19 => ?_) (fun h19 => ?_)
        · refine a_iload_n (kX6_whoIn.at 16 rfl) 2 rfl ?_
          refine a_istore_n (ls' := [(0, vR 44), (1, vI h), (2, vI w), (3, vI k)]) (kX6_whoIn.at 17 rfl) (by decide) rfl ?_
          refine a_iinc (ls' := [(0, vR 44), (1, vI h), (2, vI w), (3, vI (k + 1))]) (kX6_whoIn.at 18 rfl) 3 rfl (by decide) (inr (by omega)) rfl ?_
          refine a_goto (tgt := 4) (kX6_whoIn.at 19 rfl) (by decide) ?_
          exact ih ((k + 1)) (w) (by omega) (by omega) (by rw [forR_succ hk0, ← e_w] <;> (clear ih kk e_w; first | (exfalso; omega) | rfl | (simp [*] <;> omega))) (by omega)
        · refine a_iload_n (kX6_whoIn.at 14 rfl) 3 rfl ?_
          refine a_goto (tgt := 27) (kX6_whoIn.at 15 rfl) (by decide) ?_
          refine a_istore_n (ls' := [(0, vR 44), (1, vI h), (2, vI k), (3, vI k)]) (kX6_whoIn.at 17 rfl) (by decide) rfl ?_
          refine a_iinc (ls' := [(0, vR 44), (1, vI h), (2, vI k), (3, vI (k + 1))]) (kX6_whoIn.at 18 rfl) 3 rfl (by decide) (inr (by omega)) rfl ?_
          refine a_goto (tgt := 4) (kX6_whoIn.at 19 rfl) (by decide) ?_
          exact ih ((k + 1)) (k) (by omega) (by omega) (by rw [forR_succ hk0, ← e_w] <;> (clear ih kk e_w; first | (exfalso; omega) | rfl | (simp [*] <;> omega))) (by omega)
  exact key ((M 44 7) - (0) + 1 : Int).toNat (0) (-1) (Int.le_refl _) hlohi (forR_nil (Int.le_refl _)).symm  (by omega)
theorem c_whoIn (G : GT) (M : Mem) (h : Int) (hp : 0 ≤ M 44 7 ∧ M 44 7 ≤ 8) : AM G yX6_whoIn cX6_whoIn 4 (some .int) 0 M [vR 44, vI h] (qI (whoIn M h) M) := by
  refine AM.mk (own := RX6) rfl sv_X6_whoIn.1.2.2.2.2.2 (Nat.le_of_ble_eq_true rfl) rfl ?_
  refine a_iconst (kX6_whoIn.at 0 rfl) rfl ?_
  refine a_istore_n (ls' := [(0, vR 44), (1, vI h), (2, vI (-1))]) (kX6_whoIn.at 1 rfl) (by decide) rfl ?_
  refine a_iconst (kX6_whoIn.at 2 rfl) rfl ?_
  refine a_istore_n (ls' := [(0, vR 44), (1, vI h), (2, vI (-1)), (3, vI 0)]) (kX6_whoIn.at 3 rfl) (by decide) rfl ?_
  refine l_whoIn G M h _ hp (by omega) ?_
  show AW _ _ _ _ _ _ 34 [(0, vR 44), (1, vI h), (2, vI (whoIn M h)), (3, vI (M 44 7))] [] M
  refine a_iload_n (kX6_whoIn.at 20 rfl) 2 rfl ?_
  exact a_iretE (kX6_whoIn.at 21 rfl) (⟨rfl, rfl⟩)
theorem whoIn_r (M : Mem) (h : Int) (hp : 0 ≤ M 44 7) : -1 ≤ whoIn M h ∧ whoIn M h < M 44 7 := by
  have := forR_inv (lo := 0) (hi := M 44 7) (f := fun k w => if M 52 k = h then k else w) (a := (-1 : Int)) (fun k w => -1 ≤ w ∧ w < k ∨ w = -1) hp (Or.inr rfl) (fun k x h1 h2 h3 => by
    show _ ≤ (if M 52 k = h then k else x) ∧ _ ∨ _
    split
    · left; omega
    · omega)
  unfold whoIn
  omega
