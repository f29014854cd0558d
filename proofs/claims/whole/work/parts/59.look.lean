/-! ===== the class: looking things up ===== -/
theorem find_p (K : Mem) : find K 44 7 = (reads K).1 44 7 := (Fr_lives _).people
theorem k_fault (G : GT) (M K : Mem) (hC : Cp M K) : AM G yX5_fault cX5_fault 1 (some .int) 0 M [vR 0] (qI (reads K).2 M) := by
  refine AM.mk (own := RX5) rfl sv_X5_fault.1.2.2.2.2.2 (Nat.le_of_ble_eq_true rfl) rfl ?_
  refine a_aload_n (kX5_fault.at 0 rfl) 0 rfl ?_
  refine a_getR (kX5_fault.at 1 rfl) fg_X5_10 ir_0_0 ?_
  refine a_getI (x := M 1 6) (kX5_fault.at 2 rfl) fg_X5_67 ii_1_6 (rfl) ?_
  exact a_iretE (kX5_fault.at 3 rfl) (⟨hC.2.1.1, rfl⟩)
theorem k_person (G : GT) (M K : Mem) (k w : Int) (hC : Cp M K) (h : MB K) : AM G yX5_person cX5_person 3 (some .int) 2 M [vR 0, vI k, vI w] (qI (o_person K k w) M) := by
  refine AM.mk (own := RX5) rfl sv_X5_person.1.2.2.2.2.2 (Nat.le_of_ble_eq_true rfl) rfl ?_
  have hX := hC.2.1
  have e5 := hX.2.1
  have hp := (reads_IR K h.1.1).1
  refine a_aload_n (kX5_person.at 0 rfl) 0 rfl ?_
  refine a_iload_n (kX5_person.at 1 rfl) 1 rfl ?_
  refine AW.callV (as := [vI k]) (st := []) (kX5_person.at 2 rfl) ml_X5_70 sv_X5_isPerson (k := 0) (io_0) rfl rfl ⟨Nat.le_of_ble_eq_true rfl, Nat.le_of_ble_eq_true rfl⟩ ⟨Nat.le_refl _, Nat.le_refl _⟩ rfl rfl (Nat.le_of_ble_eq_true rfl) (k_isPerson G M k) (kIE ?_)
  refine a_ifeqB (tgt := 16) (kX5_person.at 3 rfl) (by decide) (fun h5 => ?_) (fun h5 => ?_)
  · refine a_bipush (kX5_person.at 8 rfl) rfl rfl ?_
    exact a_iretE (kX5_person.at 9 rfl) (by unfold o_person; first | exact ⟨(if_neg (by omega)).symm, rfl⟩ | (rw [if_pos (by omega)]; have z := hX.2.2 k (by omega) (by omega); first | (rw [show 3 * k + w = 3 * k by omega]; exact ⟨z.1, rfl⟩) | (rw [show 3 * k + w = 3 * k + 1 by omega]; exact ⟨z.2.1, rfl⟩) | (rw [show 3 * k + w = 3 * k + 2 by omega]; exact ⟨z.2.2, rfl⟩)))
  · refine a_iload_n (kX5_person.at 4 rfl) 2 rfl ?_
    refine a_iconst (kX5_person.at 5 rfl) rfl ?_
    refine AW.callS (as := [vI w, vI 3]) (st := []) (kX5_person.at 6 rfl) ml_X5_74 ss_X5_isBelow ⟨Nat.le_of_ble_eq_true rfl, Nat.le_of_ble_eq_true rfl⟩ ⟨Nat.le_refl _, Nat.le_refl _⟩ rfl rfl (Nat.le_of_ble_eq_true rfl) (k_isBelow G M w 3) (kIE ?_)
    refine a_ifneB (tgt := 19) (kX5_person.at 7 rfl) (by decide) (fun h13 => ?_) (fun h13 => ?_)
    · refine a_iload_n (kX5_person.at 10 rfl) 2 rfl ?_
      refine a_ifne (tgt := 33) (kX5_person.at 11 rfl) (by decide) (fun h20 => ?_) (fun h20 => ?_)
      · refine a_iload_n (kX5_person.at 18 rfl) 2 rfl ?_
        refine a_iconst (kX5_person.at 19 rfl) rfl ?_
        refine a_icmpne (tgt := 50) (kX5_person.at 20 rfl) (by decide) (fun h35 => ?_) (fun h35 => ?_)
        · refine a_aload_n (kX5_person.at 27 rfl) 0 rfl ?_
          refine a_getR (kX5_person.at 28 rfl) fg_X5_10 ir_0_0 ?_
          refine a_getR (kX5_person.at 29 rfl) fg_X5_84 ir_1_3 ?_
          refine a_iload_n (kX5_person.at 30 rfl) 1 rfl ?_
          refine a_iald (x := M 17 k) (kX5_person.at 31 rfl) (ia_17) (by omega) (rfl) ?_
          exact a_iretE (kX5_person.at 32 rfl) (by unfold o_person; first | exact ⟨(if_neg (by omega)).symm, rfl⟩ | (rw [if_pos (by omega)]; have z := hX.2.2 k (by omega) (by omega); first | (rw [show 3 * k + w = 3 * k by omega]; exact ⟨z.1, rfl⟩) | (rw [show 3 * k + w = 3 * k + 1 by omega]; exact ⟨z.2.1, rfl⟩) | (rw [show 3 * k + w = 3 * k + 2 by omega]; exact ⟨z.2.2, rfl⟩)))
        · refine a_aload_n (kX5_person.at 21 rfl) 0 rfl ?_
          refine a_getR (kX5_person.at 22 rfl) fg_X5_10 ir_0_0 ?_
          refine a_getR (kX5_person.at 23 rfl) fg_X5_81 ir_1_2 ?_
          refine a_iload_n (kX5_person.at 24 rfl) 1 rfl ?_
          refine a_iald (x := M 16 k) (kX5_person.at 25 rfl) (ia_16) (by omega) (rfl) ?_
          refine a_goto (tgt := 59) (kX5_person.at 26 rfl) (by decide) ?_
          exact a_iretE (kX5_person.at 32 rfl) (by unfold o_person; first | exact ⟨(if_neg (by omega)).symm, rfl⟩ | (rw [if_pos (by omega)]; have z := hX.2.2 k (by omega) (by omega); first | (rw [show 3 * k + w = 3 * k by omega]; exact ⟨z.1, rfl⟩) | (rw [show 3 * k + w = 3 * k + 1 by omega]; exact ⟨z.2.1, rfl⟩) | (rw [show 3 * k + w = 3 * k + 2 by omega]; exact ⟨z.2.2, rfl⟩)))
      · refine a_aload_n (kX5_person.at 12 rfl) 0 rfl ?_
        refine a_getR (kX5_person.at 13 rfl) fg_X5_10 ir_0_0 ?_
        refine a_getR (kX5_person.at 14 rfl) fg_X5_78 ir_1_1 ?_
        refine a_iload_n (kX5_person.at 15 rfl) 1 rfl ?_
        refine a_iald (x := M 15 k) (kX5_person.at 16 rfl) (ia_15) (by omega) (rfl) ?_
        exact a_iretE (kX5_person.at 17 rfl) (by unfold o_person; first | exact ⟨(if_neg (by omega)).symm, rfl⟩ | (rw [if_pos (by omega)]; have z := hX.2.2 k (by omega) (by omega); first | (rw [show 3 * k + w = 3 * k by omega]; exact ⟨z.1, rfl⟩) | (rw [show 3 * k + w = 3 * k + 1 by omega]; exact ⟨z.2.1, rfl⟩) | (rw [show 3 * k + w = 3 * k + 2 by omega]; exact ⟨z.2.2, rfl⟩)))
    · refine a_bipush (kX5_person.at 8 rfl) rfl rfl ?_
      exact a_iretE (kX5_person.at 9 rfl) (by unfold o_person; first | exact ⟨(if_neg (by omega)).symm, rfl⟩ | (rw [if_pos (by omega)]; have z := hX.2.2 k (by omega) (by omega); first | (rw [show 3 * k + w = 3 * k by omega]; exact ⟨z.1, rfl⟩) | (rw [show 3 * k + w = 3 * k + 1 by omega]; exact ⟨z.2.1, rfl⟩) | (rw [show 3 * k + w = 3 * k + 2 by omega]; exact ⟨z.2.2, rfl⟩)))
theorem k_at (G : GT) (M K : Mem) (q k w : Int) (hC : Cp M K) (h : MB K) : AM G yX5_at cX5_at 4 (some .int) 2 M [vR 0, vI q, vI k, vI w] (qI (o_at K q k w) M) := by
  refine AM.mk (own := RX5) rfl sv_X5_at.1.2.2.2.2.2 (Nat.le_of_ble_eq_true rfl) rfl ?_
  have e5 := hC.2.1.2.1
  have hp := (reads_IR K h.1.1).1
  have ef := find_p K
  have hT := hC.2.2.2.1.2
  refine a_iload_n (kX5_at.at 0 rfl) 1 rfl ?_
  refine a_bipush (kX5_at.at 1 rfl) rfl rfl ?_
  refine AW.callS (as := [vI q, vI 16]) (st := []) (kX5_at.at 2 rfl) ml_X5_74 ss_X5_isBelow ⟨Nat.le_of_ble_eq_true rfl, Nat.le_of_ble_eq_true rfl⟩ ⟨Nat.le_refl _, Nat.le_refl _⟩ rfl rfl (Nat.le_of_ble_eq_true rfl) (k_isBelow G M q 16) (kIE ?_)
  refine a_ifeqB (tgt := 25) (kX5_at.at 3 rfl) (by decide) (fun h6 => ?_) (fun h6 => ?_)
  · refine a_bipush (kX5_at.at 12 rfl) rfl rfl ?_
    exact a_iretE (kX5_at.at 13 rfl) (by unfold o_at atBy; first | exact ⟨(if_neg (by omega)).symm, rfl⟩ | (rw [if_pos (by omega)]; first | exact ⟨(if_pos (by omega)).symm, rfl⟩ | (rw [if_neg (by omega)]; first | exact ⟨(if_pos (by omega)).symm, rfl⟩ | (rw [if_neg (by omega)]; first | exact ⟨(if_pos (by omega)).symm, rfl⟩ | exact ⟨(if_neg (by omega)).symm, rfl⟩))))
  · refine a_aload_n (kX5_at.at 4 rfl) 0 rfl ?_
    refine a_iload_n (kX5_at.at 5 rfl) 2 rfl ?_
    refine AW.callV (as := [vI k]) (st := []) (kX5_at.at 6 rfl) ml_X5_70 sv_X5_isPerson (k := 0) (io_0) rfl rfl ⟨Nat.le_of_ble_eq_true rfl, Nat.le_of_ble_eq_true rfl⟩ ⟨Nat.le_refl _, Nat.le_refl _⟩ rfl rfl (Nat.le_of_ble_eq_true rfl) (k_isPerson G M k) (kIE ?_)
    refine a_ifeqB (tgt := 25) (kX5_at.at 7 rfl) (by decide) (fun h14 => ?_) (fun h14 => ?_)
    · refine a_bipush (kX5_at.at 12 rfl) rfl rfl ?_
      exact a_iretE (kX5_at.at 13 rfl) (by unfold o_at atBy; first | exact ⟨(if_neg (by omega)).symm, rfl⟩ | (rw [if_pos (by omega)]; first | exact ⟨(if_pos (by omega)).symm, rfl⟩ | (rw [if_neg (by omega)]; first | exact ⟨(if_pos (by omega)).symm, rfl⟩ | (rw [if_neg (by omega)]; first | exact ⟨(if_pos (by omega)).symm, rfl⟩ | exact ⟨(if_neg (by omega)).symm, rfl⟩))))
    · refine a_iload_n (kX5_at.at 8 rfl) 3 rfl ?_
      refine a_iconst (kX5_at.at 9 rfl) rfl ?_
      refine AW.callS (as := [vI w, vI 4]) (st := []) (kX5_at.at 10 rfl) ml_X5_74 ss_X5_isBelow ⟨Nat.le_of_ble_eq_true rfl, Nat.le_of_ble_eq_true rfl⟩ ⟨Nat.le_refl _, Nat.le_refl _⟩ rfl rfl (Nat.le_of_ble_eq_true rfl) (k_isBelow G M w 4) (kIE ?_)
      refine a_ifneB (tgt := 28) (kX5_at.at 11 rfl) (by decide) (fun h22 => ?_) (fun h22 => ?_)
      · refine a_iload_n (kX5_at.at 14 rfl) 3 rfl ?_
        rcases sw0_2 (x := w) with h29_0 | h29_1 | h29_2 | h29_d
        · refine a_tabIn (off := 27) (tgt := 56) (kX5_at.at 15 rfl) (by omega) (by omega) (by rw [h29_0]; rfl) (by decide) ?_
          refine a_aload_n (kX5_at.at 16 rfl) 0 rfl ?_
          refine a_getR (kX5_at.at 17 rfl) fg_X5_29 ir_0_3 ?_
          refine a_iload_n (kX5_at.at 18 rfl) 1 rfl ?_
          refine a_iload_n (kX5_at.at 19 rfl) 2 rfl ?_
          refine AW.callV (as := [vI q, vI k]) (st := []) (kX5_at.at 20 rfl) ml_X5_111 sv_X1_homeBehind (k := 4) (io_4) rfl rfl ⟨Nat.le_of_ble_eq_true rfl, Nat.le_of_ble_eq_true rfl⟩ ⟨Nat.le_refl _, Nat.le_refl _⟩ rfl rfl (Nat.le_of_ble_eq_true rfl) (k_homeBehind G M (find K) 0 q k (by omega) hT (by omega) (by omega) (by omega)) (kIE ?_)
          exact a_iretE (kX5_at.at 21 rfl) (by unfold o_at atBy; first | exact ⟨(if_neg (by omega)).symm, rfl⟩ | (rw [if_pos (by omega)]; first | exact ⟨(if_pos (by omega)).symm, rfl⟩ | (rw [if_neg (by omega)]; first | exact ⟨(if_pos (by omega)).symm, rfl⟩ | (rw [if_neg (by omega)]; first | exact ⟨(if_pos (by omega)).symm, rfl⟩ | exact ⟨(if_neg (by omega)).symm, rfl⟩))))
        · refine a_tabIn (off := 37) (tgt := 66) (kX5_at.at 15 rfl) (by omega) (by omega) (by rw [h29_1]; rfl) (by decide) ?_
          refine a_aload_n (kX5_at.at 22 rfl) 0 rfl ?_
          refine a_getR (kX5_at.at 23 rfl) fg_X5_29 ir_0_3 ?_
          refine a_iload_n (kX5_at.at 24 rfl) 1 rfl ?_
          refine a_iload_n (kX5_at.at 25 rfl) 2 rfl ?_
          refine AW.callV (as := [vI q, vI k]) (st := []) (kX5_at.at 26 rfl) ml_X5_115 sv_X1_viewsBehind (k := 4) (io_4) rfl rfl ⟨Nat.le_of_ble_eq_true rfl, Nat.le_of_ble_eq_true rfl⟩ ⟨Nat.le_refl _, Nat.le_refl _⟩ rfl rfl (Nat.le_of_ble_eq_true rfl) (k_viewsBehind G M (find K) 0 q k (by omega) hT (by omega) (by omega) (by omega)) (kIE ?_)
          exact a_iretE (kX5_at.at 27 rfl) (by unfold o_at atBy; first | exact ⟨(if_neg (by omega)).symm, rfl⟩ | (rw [if_pos (by omega)]; first | exact ⟨(if_pos (by omega)).symm, rfl⟩ | (rw [if_neg (by omega)]; first | exact ⟨(if_pos (by omega)).symm, rfl⟩ | (rw [if_neg (by omega)]; first | exact ⟨(if_pos (by omega)).symm, rfl⟩ | exact ⟨(if_neg (by omega)).symm, rfl⟩))))
        · refine a_tabIn (off := 47) (tgt := 76) (kX5_at.at 15 rfl) (by omega) (by omega) (by rw [h29_2]; rfl) (by decide) ?_
          refine a_aload_n (kX5_at.at 28 rfl) 0 rfl ?_
          refine a_getR (kX5_at.at 29 rfl) fg_X5_29 ir_0_3 ?_
          refine a_iload_n (kX5_at.at 30 rfl) 1 rfl ?_
          refine a_iload_n (kX5_at.at 31 rfl) 2 rfl ?_
          refine AW.callV (as := [vI q, vI k]) (st := []) (kX5_at.at 32 rfl) ml_X5_118 sv_X1_movedBehind (k := 4) (io_4) rfl rfl ⟨Nat.le_of_ble_eq_true rfl, Nat.le_of_ble_eq_true rfl⟩ ⟨Nat.le_refl _, Nat.le_refl _⟩ rfl rfl (Nat.le_of_ble_eq_true rfl) (k_movedBehind G M (find K) 0 q k (by omega) hT (by omega) (by omega) (by omega)) (kIE ?_)
          exact a_iretE (kX5_at.at 33 rfl) (by unfold o_at atBy; first | exact ⟨(if_neg (by omega)).symm, rfl⟩ | (rw [if_pos (by omega)]; first | exact ⟨(if_pos (by omega)).symm, rfl⟩ | (rw [if_neg (by omega)]; first | exact ⟨(if_pos (by omega)).symm, rfl⟩ | (rw [if_neg (by omega)]; first | exact ⟨(if_pos (by omega)).symm, rfl⟩ | exact ⟨(if_neg (by omega)).symm, rfl⟩))))
        · refine a_tabOut (tgt := 86) (kX5_at.at 15 rfl) (by omega) (by decide) ?_
          refine a_aload_n (kX5_at.at 34 rfl) 0 rfl ?_
          refine a_getR (kX5_at.at 35 rfl) fg_X5_29 ir_0_3 ?_
          refine a_iload_n (kX5_at.at 36 rfl) 1 rfl ?_
          refine a_iload_n (kX5_at.at 37 rfl) 2 rfl ?_
          refine AW.callV (as := [vI q, vI k]) (st := []) (kX5_at.at 38 rfl) ml_X5_121 sv_X1_cameBehind (k := 4) (io_4) rfl rfl ⟨Nat.le_of_ble_eq_true rfl, Nat.le_of_ble_eq_true rfl⟩ ⟨Nat.le_refl _, Nat.le_refl _⟩ rfl rfl (Nat.le_of_ble_eq_true rfl) (k_cameBehind G M (find K) 0 q k (by omega) hT (by omega) (by omega) (by omega)) (kIE ?_)
          exact a_iretE (kX5_at.at 39 rfl) (by unfold o_at atBy; first | exact ⟨(if_neg (by omega)).symm, rfl⟩ | (rw [if_pos (by omega)]; first | exact ⟨(if_pos (by omega)).symm, rfl⟩ | (rw [if_neg (by omega)]; first | exact ⟨(if_pos (by omega)).symm, rfl⟩ | (rw [if_neg (by omega)]; first | exact ⟨(if_pos (by omega)).symm, rfl⟩ | exact ⟨(if_neg (by omega)).symm, rfl⟩))))
      · refine a_bipush (kX5_at.at 12 rfl) rfl rfl ?_
        exact a_iretE (kX5_at.at 13 rfl) (by unfold o_at atBy; first | exact ⟨(if_neg (by omega)).symm, rfl⟩ | (rw [if_pos (by omega)]; first | exact ⟨(if_pos (by omega)).symm, rfl⟩ | (rw [if_neg (by omega)]; first | exact ⟨(if_pos (by omega)).symm, rfl⟩ | (rw [if_neg (by omega)]; first | exact ⟨(if_pos (by omega)).symm, rfl⟩ | exact ⟨(if_neg (by omega)).symm, rfl⟩))))
theorem k_sum (G : GT) (M K : Mem) (w : Int) (hC : Cp M K) : AM G yX5_sum cX5_sum 2 (some .int) 1 M [vR 0, vI w] (qI (o_sum K w) M) := by
  refine AM.mk (own := RX5) rfl sv_X5_sum.1.2.2.2.2.2 (Nat.le_of_ble_eq_true rfl) rfl ?_
  have h4 := hC.2.2.2.1.1.2.2.2.1
  refine a_iload_n (kX5_sum.at 0 rfl) 1 rfl ?_
  refine a_iconst (kX5_sum.at 1 rfl) rfl ?_
  refine AW.callS (as := [vI w, vI 3]) (st := []) (kX5_sum.at 2 rfl) ml_X5_74 ss_X5_isBelow ⟨Nat.le_of_ble_eq_true rfl, Nat.le_of_ble_eq_true rfl⟩ ⟨Nat.le_refl _, Nat.le_refl _⟩ rfl rfl (Nat.le_of_ble_eq_true rfl) (k_isBelow G M w 3) (kIE ?_)
  refine a_ifneB (tgt := 11) (kX5_sum.at 3 rfl) (by decide) (fun h5 => ?_) (fun h5 => ?_)
  · refine a_iload_n (kX5_sum.at 6 rfl) 1 rfl ?_
    refine a_ifne (tgt := 23) (kX5_sum.at 7 rfl) (by decide) (fun h12 => ?_) (fun h12 => ?_)
    · refine a_iload_n (kX5_sum.at 12 rfl) 1 rfl ?_
      refine a_iconst (kX5_sum.at 13 rfl) rfl ?_
      refine a_icmpne (tgt := 38) (kX5_sum.at 14 rfl) (by decide) (fun h25 => ?_) (fun h25 => ?_)
      · refine a_aload_n (kX5_sum.at 19 rfl) 0 rfl ?_
        refine a_getR (kX5_sum.at 20 rfl) fg_X5_29 ir_0_3 ?_
        refine a_getI (x := M 4 11) (kX5_sum.at 21 rfl) fg_X5_139 ii_4_11 (rfl) ?_
        exact a_iretE (kX5_sum.at 22 rfl) (by unfold o_sum sumBy; first | exact ⟨(if_neg (by omega)).symm, rfl⟩ | (rw [if_pos (by omega)]; first | (rw [if_pos (by omega)]; exact ⟨h4.1, rfl⟩) | (rw [if_neg (by omega)]; first | (rw [if_pos (by omega)]; exact ⟨h4.2.1, rfl⟩) | (rw [if_neg (by omega)]; exact ⟨h4.2.2.1, rfl⟩))))
      · refine a_aload_n (kX5_sum.at 15 rfl) 0 rfl ?_
        refine a_getR (kX5_sum.at 16 rfl) fg_X5_29 ir_0_3 ?_
        refine a_getI (x := M 4 10) (kX5_sum.at 17 rfl) fg_X5_136 ii_4_10 (rfl) ?_
        refine a_goto (tgt := 45) (kX5_sum.at 18 rfl) (by decide) ?_
        exact a_iretE (kX5_sum.at 22 rfl) (by unfold o_sum sumBy; first | exact ⟨(if_neg (by omega)).symm, rfl⟩ | (rw [if_pos (by omega)]; first | (rw [if_pos (by omega)]; exact ⟨h4.1, rfl⟩) | (rw [if_neg (by omega)]; first | (rw [if_pos (by omega)]; exact ⟨h4.2.1, rfl⟩) | (rw [if_neg (by omega)]; exact ⟨h4.2.2.1, rfl⟩))))
    · refine a_aload_n (kX5_sum.at 8 rfl) 0 rfl ?_
      refine a_getR (kX5_sum.at 9 rfl) fg_X5_29 ir_0_3 ?_
      refine a_getI (x := M 4 9) (kX5_sum.at 10 rfl) fg_X5_133 ii_4_9 (rfl) ?_
      exact a_iretE (kX5_sum.at 11 rfl) (by unfold o_sum sumBy; first | exact ⟨(if_neg (by omega)).symm, rfl⟩ | (rw [if_pos (by omega)]; first | (rw [if_pos (by omega)]; exact ⟨h4.1, rfl⟩) | (rw [if_neg (by omega)]; first | (rw [if_pos (by omega)]; exact ⟨h4.2.1, rfl⟩) | (rw [if_neg (by omega)]; exact ⟨h4.2.2.1, rfl⟩))))
  · refine a_bipush (kX5_sum.at 4 rfl) rfl rfl ?_
    exact a_iretE (kX5_sum.at 5 rfl) (by unfold o_sum sumBy; first | exact ⟨(if_neg (by omega)).symm, rfl⟩ | (rw [if_pos (by omega)]; first | (rw [if_pos (by omega)]; exact ⟨h4.1, rfl⟩) | (rw [if_neg (by omega)]; first | (rw [if_pos (by omega)]; exact ⟨h4.2.1, rfl⟩) | (rw [if_neg (by omega)]; exact ⟨h4.2.2.1, rfl⟩))))
theorem k_first (G : GT) (M K : Mem) (w : Int) (hC : Cp M K) : AM G yX5_first cX5_first 2 (some .int) 1 M [vR 0, vI w] (qI (o_first K w) M) := by
  refine AM.mk (own := RX5) rfl sv_X5_first.1.2.2.2.2.2 (Nat.le_of_ble_eq_true rfl) rfl ?_
  have h4 := hC.2.2.2.1.1.2.2.2.1
  refine a_iload_n (kX5_first.at 0 rfl) 1 rfl ?_
  refine a_iconst (kX5_first.at 1 rfl) rfl ?_
  refine AW.callS (as := [vI w, vI 2]) (st := []) (kX5_first.at 2 rfl) ml_X5_74 ss_X5_isBelow ⟨Nat.le_of_ble_eq_true rfl, Nat.le_of_ble_eq_true rfl⟩ ⟨Nat.le_refl _, Nat.le_refl _⟩ rfl rfl (Nat.le_of_ble_eq_true rfl) (k_isBelow G M w 2) (kIE ?_)
  refine a_ifneB (tgt := 11) (kX5_first.at 3 rfl) (by decide) (fun h5 => ?_) (fun h5 => ?_)
  · refine a_iload_n (kX5_first.at 6 rfl) 1 rfl ?_
    refine a_ifne (tgt := 25) (kX5_first.at 7 rfl) (by decide) (fun h12 => ?_) (fun h12 => ?_)
    · refine a_aload_n (kX5_first.at 12 rfl) 0 rfl ?_
      refine a_getR (kX5_first.at 13 rfl) fg_X5_29 ir_0_3 ?_
      refine a_getI (x := M 4 13) (kX5_first.at 14 rfl) fg_X5_145 ii_4_13 (rfl) ?_
      exact a_iretE (kX5_first.at 15 rfl) (by unfold o_first; first | exact ⟨(if_neg (by omega)).symm, rfl⟩ | (rw [if_pos (by omega)]; first | (rw [if_pos (by omega)]; exact ⟨h4.2.2.2.1, rfl⟩) | (rw [if_neg (by omega)]; exact ⟨h4.2.2.2.2, rfl⟩)))
    · refine a_aload_n (kX5_first.at 8 rfl) 0 rfl ?_
      refine a_getR (kX5_first.at 9 rfl) fg_X5_29 ir_0_3 ?_
      refine a_getI (x := M 4 12) (kX5_first.at 10 rfl) fg_X5_142 ii_4_12 (rfl) ?_
      refine a_goto (tgt := 32) (kX5_first.at 11 rfl) (by decide) ?_
      exact a_iretE (kX5_first.at 15 rfl) (by unfold o_first; first | exact ⟨(if_neg (by omega)).symm, rfl⟩ | (rw [if_pos (by omega)]; first | (rw [if_pos (by omega)]; exact ⟨h4.2.2.2.1, rfl⟩) | (rw [if_neg (by omega)]; exact ⟨h4.2.2.2.2, rfl⟩)))
  · refine a_bipush (kX5_first.at 4 rfl) rfl rfl ?_
    exact a_iretE (kX5_first.at 5 rfl) (by unfold o_first; first | exact ⟨(if_neg (by omega)).symm, rfl⟩ | (rw [if_pos (by omega)]; first | (rw [if_pos (by omega)]; exact ⟨h4.2.2.2.1, rfl⟩) | (rw [if_neg (by omega)]; exact ⟨h4.2.2.2.2, rfl⟩)))
