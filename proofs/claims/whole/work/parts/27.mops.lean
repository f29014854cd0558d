/-! ===== the reference: its calls ===== -/
noncomputable def o_settle (M : Mem) (k w : Int) : Int := if (0 ≤ k ∧ k ≤ find M 44 7 - 1) ∧ 0 ≤ w ∧ w ≤ 1 then settleS (find M) k w else -2
theorem c_settle (G : GT) (M : Mem) (k w : Int) (h : MB M) : AM G yX6_settle cX6_settle 3 (some .int) 6 M [vR 44, vI k, vI w] (pI fun r M' => r = o_settle M k w ∧ Fp M M') := by
  refine AM.mk (own := RX6) rfl sv_X6_settle.1.2.2.2.2.2 (Nat.le_of_ble_eq_true rfl) rfl ?_
  have hI := h.1
  have hp := find_pr M hI
  have hB := find_BI h
  have hF := find_Fp hI
  refine a_aload_n (kX6_settle.at 0 rfl) 0 rfl ?_
  refine AW.callV (as := []) (st := []) (kX6_settle.at 1 rfl) ml_X6_203 sv_X6_find (k := 44) (io_44) rfl rfl ⟨Nat.le_of_ble_eq_true rfl, Nat.le_of_ble_eq_true rfl⟩ ⟨Nat.le_refl _, Nat.le_refl _⟩ rfl rfl (Nat.le_of_ble_eq_true rfl) (c_find G M hI) (kVE ?_)
  refine a_aload_n (kX6_settle.at 2 rfl) 0 rfl ?_
  refine a_iload_n (kX6_settle.at 3 rfl) 1 rfl ?_
  refine AW.callV (as := [vI k]) (st := []) (kX6_settle.at 4 rfl) ml_X6_125 sv_X6_isPerson (k := 44) (io_44) rfl rfl ⟨Nat.le_of_ble_eq_true rfl, Nat.le_of_ble_eq_true rfl⟩ ⟨Nat.le_refl _, Nat.le_refl _⟩ rfl rfl (Nat.le_of_ble_eq_true rfl) (c_isPerson G (find M) k (by omega)) (kIE ?_)
  refine a_ifeqB (tgt := 28) (kX6_settle.at 5 rfl) (by decide) (fun h9 => ?_) (fun h9 => ?_)
  · refine a_bipush (kX6_settle.at 14 rfl) rfl rfl ?_
    exact a_iret (kX6_settle.at 15 rfl) (⟨by unfold o_settle; first | rw [if_pos (by omega)] | rw [if_neg (by omega)], by first | exact hF.trans hq.fp | exact hF⟩)
  · refine a_iload_n (kX6_settle.at 6 rfl) 2 rfl ?_
    refine AW.callS (as := [vI w]) (st := []) (kX6_settle.at 7 rfl) ml_X6_219 ss_X6_isTwo ⟨Nat.le_of_ble_eq_true rfl, Nat.le_of_ble_eq_true rfl⟩ ⟨Nat.le_refl _, Nat.le_refl _⟩ rfl rfl (Nat.le_of_ble_eq_true rfl) (c_isTwo G (find M) w) (kIE ?_)
    refine a_ifeqB (tgt := 28) (kX6_settle.at 8 rfl) (by decide) (fun h16 => ?_) (fun h16 => ?_)
    · refine a_bipush (kX6_settle.at 14 rfl) rfl rfl ?_
      exact a_iret (kX6_settle.at 15 rfl) (⟨by unfold o_settle; first | rw [if_pos (by omega)] | rw [if_neg (by omega)], by first | exact hF.trans hq.fp | exact hF⟩)
    · refine a_aload_n (kX6_settle.at 9 rfl) 0 rfl ?_
      refine a_iload_n (kX6_settle.at 10 rfl) 1 rfl ?_
      refine a_iload_n (kX6_settle.at 11 rfl) 2 rfl ?_
      refine AW.callV (as := [vI k, vI w]) (st := []) (kX6_settle.at 12 rfl) ml_X6_246 sv_X6_settleOf (k := 44) (io_44) rfl rfl ⟨Nat.le_of_ble_eq_true rfl, Nat.le_of_ble_eq_true rfl⟩ ⟨Nat.le_refl _, Nat.le_refl _⟩ rfl rfl (Nat.le_of_ble_eq_true rfl) (c_settleOf G (find M) k w hB.1 (by omega)) (kI fun r N hr => ?_)
      obtain ⟨rfl, hq⟩ := hr
      refine a_goto (tgt := 30) (kX6_settle.at 13 rfl) (by decide) ?_
      exact a_iret (kX6_settle.at 15 rfl) (⟨by unfold o_settle; first | rw [if_pos (by omega)] | rw [if_neg (by omega)], by first | exact hF.trans hq.fp | exact hF⟩)
noncomputable def o_think (M : Mem) (k w : Int) : Int := if (0 ≤ k ∧ k ≤ find M 44 7 - 1) ∧ 0 ≤ w ∧ w ≤ 1 then thinkS (find M) k w else -2
theorem c_think (G : GT) (M : Mem) (k w : Int) (h : MB M) : AM G yX6_think cX6_think 3 (some .int) 6 M [vR 44, vI k, vI w] (pI fun r M' => r = o_think M k w ∧ Fp M M') := by
  refine AM.mk (own := RX6) rfl sv_X6_think.1.2.2.2.2.2 (Nat.le_of_ble_eq_true rfl) rfl ?_
  have hI := h.1
  have hp := find_pr M hI
  have hB := find_BI h
  have hF := find_Fp hI
  refine a_aload_n (kX6_think.at 0 rfl) 0 rfl ?_
  refine AW.callV (as := []) (st := []) (kX6_think.at 1 rfl) ml_X6_203 sv_X6_find (k := 44) (io_44) rfl rfl ⟨Nat.le_of_ble_eq_true rfl, Nat.le_of_ble_eq_true rfl⟩ ⟨Nat.le_refl _, Nat.le_refl _⟩ rfl rfl (Nat.le_of_ble_eq_true rfl) (c_find G M hI) (kVE ?_)
  refine a_aload_n (kX6_think.at 2 rfl) 0 rfl ?_
  refine a_iload_n (kX6_think.at 3 rfl) 1 rfl ?_
  refine AW.callV (as := [vI k]) (st := []) (kX6_think.at 4 rfl) ml_X6_125 sv_X6_isPerson (k := 44) (io_44) rfl rfl ⟨Nat.le_of_ble_eq_true rfl, Nat.le_of_ble_eq_true rfl⟩ ⟨Nat.le_refl _, Nat.le_refl _⟩ rfl rfl (Nat.le_of_ble_eq_true rfl) (c_isPerson G (find M) k (by omega)) (kIE ?_)
  refine a_ifeqB (tgt := 28) (kX6_think.at 5 rfl) (by decide) (fun h9 => ?_) (fun h9 => ?_)
  · refine a_bipush (kX6_think.at 14 rfl) rfl rfl ?_
    exact a_iret (kX6_think.at 15 rfl) (⟨by unfold o_think; first | rw [if_pos (by omega)] | rw [if_neg (by omega)], by first | exact hF.trans hq.fp | exact hF⟩)
  · refine a_iload_n (kX6_think.at 6 rfl) 2 rfl ?_
    refine AW.callS (as := [vI w]) (st := []) (kX6_think.at 7 rfl) ml_X6_219 ss_X6_isTwo ⟨Nat.le_of_ble_eq_true rfl, Nat.le_of_ble_eq_true rfl⟩ ⟨Nat.le_refl _, Nat.le_refl _⟩ rfl rfl (Nat.le_of_ble_eq_true rfl) (c_isTwo G (find M) w) (kIE ?_)
    refine a_ifeqB (tgt := 28) (kX6_think.at 8 rfl) (by decide) (fun h16 => ?_) (fun h16 => ?_)
    · refine a_bipush (kX6_think.at 14 rfl) rfl rfl ?_
      exact a_iret (kX6_think.at 15 rfl) (⟨by unfold o_think; first | rw [if_pos (by omega)] | rw [if_neg (by omega)], by first | exact hF.trans hq.fp | exact hF⟩)
    · refine a_aload_n (kX6_think.at 9 rfl) 0 rfl ?_
      refine a_iload_n (kX6_think.at 10 rfl) 1 rfl ?_
      refine a_iload_n (kX6_think.at 11 rfl) 2 rfl ?_
      refine AW.callV (as := [vI k, vI w]) (st := []) (kX6_think.at 12 rfl) ml_X6_249 sv_X6_thinkOf (k := 44) (io_44) rfl rfl ⟨Nat.le_of_ble_eq_true rfl, Nat.le_of_ble_eq_true rfl⟩ ⟨Nat.le_refl _, Nat.le_refl _⟩ rfl rfl (Nat.le_of_ble_eq_true rfl) (c_thinkOf G (find M) k w hB.1) (kI fun r N hr => ?_)
      obtain ⟨rfl, hq⟩ := hr
      refine a_goto (tgt := 30) (kX6_think.at 13 rfl) (by decide) ?_
      exact a_iret (kX6_think.at 15 rfl) (⟨by unfold o_think; first | rw [if_pos (by omega)] | rw [if_neg (by omega)], by first | exact hF.trans hq.fp | exact hF⟩)
noncomputable def o_rest (M : Mem) (w : Int) : Int := if 0 ≤ w ∧ w ≤ 1 then restS (find M) w else -2
theorem c_rest (G : GT) (M : Mem) (w : Int) (h : MB M) : AM G yX6_rest cX6_rest 2 (some .int) 6 M [vR 44, vI w] (pI fun r M' => r = o_rest M w ∧ Fp M M') := by
  refine AM.mk (own := RX6) rfl sv_X6_rest.1.2.2.2.2.2 (Nat.le_of_ble_eq_true rfl) rfl ?_
  have hI := h.1
  have hB := find_BI h
  have hF := find_Fp hI
  refine a_aload_n (kX6_rest.at 0 rfl) 0 rfl ?_
  refine AW.callV (as := []) (st := []) (kX6_rest.at 1 rfl) ml_X6_203 sv_X6_find (k := 44) (io_44) rfl rfl ⟨Nat.le_of_ble_eq_true rfl, Nat.le_of_ble_eq_true rfl⟩ ⟨Nat.le_refl _, Nat.le_refl _⟩ rfl rfl (Nat.le_of_ble_eq_true rfl) (c_find G M hI) (kVE ?_)
  refine a_iload_n (kX6_rest.at 2 rfl) 1 rfl ?_
  refine AW.callS (as := [vI w]) (st := []) (kX6_rest.at 3 rfl) ml_X6_219 ss_X6_isTwo ⟨Nat.le_of_ble_eq_true rfl, Nat.le_of_ble_eq_true rfl⟩ ⟨Nat.le_refl _, Nat.le_refl _⟩ rfl rfl (Nat.le_of_ble_eq_true rfl) (c_isTwo G (find M) w) (kIE ?_)
  refine a_ifeqB (tgt := 19) (kX6_rest.at 4 rfl) (by decide) (fun h8 => ?_) (fun h8 => ?_)
  · refine a_bipush (kX6_rest.at 9 rfl) rfl rfl ?_
    exact a_iret (kX6_rest.at 10 rfl) (⟨by unfold o_rest; first | rw [if_pos (by omega)] | rw [if_neg (by omega)], by first | exact hF.trans hq.fp | exact hF⟩)
  · refine a_aload_n (kX6_rest.at 5 rfl) 0 rfl ?_
    refine a_iload_n (kX6_rest.at 6 rfl) 1 rfl ?_
    refine AW.callV (as := [vI w]) (st := []) (kX6_rest.at 7 rfl) ml_X6_252 sv_X6_restBy (k := 44) (io_44) rfl rfl ⟨Nat.le_of_ble_eq_true rfl, Nat.le_of_ble_eq_true rfl⟩ ⟨Nat.le_refl _, Nat.le_refl _⟩ rfl rfl (Nat.le_of_ble_eq_true rfl) (c_restBy G (find M) w hB.1) (kI fun r N hr => ?_)
    obtain ⟨rfl, hq⟩ := hr
    refine a_goto (tgt := 21) (kX6_rest.at 8 rfl) (by decide) ?_
    exact a_iret (kX6_rest.at 10 rfl) (⟨by unfold o_rest; first | rw [if_pos (by omega)] | rw [if_neg (by omega)], by first | exact hF.trans hq.fp | exact hF⟩)
noncomputable def o_spare (M : Mem) (i : Int) : Int := if -1 ≤ i ∧ i ≤ 1 then spareS (find M) i else -2
theorem c_spare (G : GT) (M : Mem) (i : Int) (h : MB M) : AM G yX6_spare cX6_spare 2 (some .int) 7 M [vR 44, vI i] (pI fun r M' => r = o_spare M i ∧ Fp M M') := by
  refine AM.mk (own := RX6) rfl sv_X6_spare.1.2.2.2.2.2 (Nat.le_of_ble_eq_true rfl) rfl ?_
  have hI := h.1
  have hB := find_BI h
  have hF := find_Fp hI
  refine a_aload_n (kX6_spare.at 0 rfl) 0 rfl ?_
  refine AW.callV (as := []) (st := []) (kX6_spare.at 1 rfl) ml_X6_203 sv_X6_find (k := 44) (io_44) rfl rfl ⟨Nat.le_of_ble_eq_true rfl, Nat.le_of_ble_eq_true rfl⟩ ⟨Nat.le_refl _, Nat.le_refl _⟩ rfl rfl (Nat.le_of_ble_eq_true rfl) (c_find G M hI) (kVE ?_)
  refine a_iload_n (kX6_spare.at 2 rfl) 1 rfl ?_
  refine a_i2l (kX6_spare.at 3 rfl) ?_
  refine a_ldc2 (kX6_spare.at 4 rfl) cl_X6_258 (-1) rfl ⟨by decide, by decide⟩ ?_
  refine a_lconst (kX6_spare.at 5 rfl) 1 rfl rfl ?_
  refine AW.callS (as := [vL i, vL (-1), vL 1]) (st := []) (kX6_spare.at 6 rfl) ml_X6_70 ss_X6_in ⟨Nat.le_of_ble_eq_true rfl, Nat.le_of_ble_eq_true rfl⟩ ⟨Nat.le_refl _, Nat.le_refl _⟩ rfl rfl (Nat.le_of_ble_eq_true rfl) (c_in G (find M) i (-1) 1) (kIE ?_)
  refine a_ifeqB (tgt := 24) (kX6_spare.at 7 rfl) (by decide) (fun h13 => ?_) (fun h13 => ?_)
  · refine a_bipush (kX6_spare.at 12 rfl) rfl rfl ?_
    exact a_iret (kX6_spare.at 13 rfl) (⟨by unfold o_spare; first | rw [if_pos (by omega)] | rw [if_neg (by omega)], by first | exact hF.trans hq.fp | exact hF⟩)
  · refine a_aload_n (kX6_spare.at 8 rfl) 0 rfl ?_
    refine a_iload_n (kX6_spare.at 9 rfl) 1 rfl ?_
    refine AW.callV (as := [vI i]) (st := []) (kX6_spare.at 10 rfl) ml_X6_260 sv_X6_spareBy (k := 44) (io_44) rfl rfl ⟨Nat.le_of_ble_eq_true rfl, Nat.le_of_ble_eq_true rfl⟩ ⟨Nat.le_refl _, Nat.le_refl _⟩ rfl rfl (Nat.le_of_ble_eq_true rfl) (c_spareBy G (find M) i hB.1) (kI fun r N hr => ?_)
    obtain ⟨rfl, hq⟩ := hr
    refine a_goto (tgt := 26) (kX6_spare.at 11 rfl) (by decide) ?_
    exact a_iret (kX6_spare.at 13 rfl) (⟨by unfold o_spare; first | rw [if_pos (by omega)] | rw [if_neg (by omega)], by first | exact hF.trans hq.fp | exact hF⟩)
theorem c_never (G : GT) (M : Mem) (h : MB M) : AM G yX6_never cX6_never 1 (some .int) 7 M [vR 44] (pI fun r M' => r = neverS (find M) ∧ Fp M M') := by
  refine AM.mk (own := RX6) rfl sv_X6_never.1.2.2.2.2.2 (Nat.le_of_ble_eq_true rfl) rfl ?_
  have hI := h.1
  have hB := find_BI h
  have hF := find_Fp hI
  refine a_aload_n (kX6_never.at 0 rfl) 0 rfl ?_
  refine AW.callV (as := []) (st := []) (kX6_never.at 1 rfl) ml_X6_203 sv_X6_find (k := 44) (io_44) rfl rfl ⟨Nat.le_of_ble_eq_true rfl, Nat.le_of_ble_eq_true rfl⟩ ⟨Nat.le_refl _, Nat.le_refl _⟩ rfl rfl (Nat.le_of_ble_eq_true rfl) (c_find G M hI) (kVE ?_)
  refine a_aload_n (kX6_never.at 2 rfl) 0 rfl ?_
  refine AW.callV (as := []) (st := []) (kX6_never.at 3 rfl) ml_X6_270 sv_X6_neverNow (k := 44) (io_44) rfl rfl ⟨Nat.le_of_ble_eq_true rfl, Nat.le_of_ble_eq_true rfl⟩ ⟨Nat.le_refl _, Nat.le_refl _⟩ rfl rfl (Nat.le_of_ble_eq_true rfl) (c_neverNow G (find M) hB.1 hB.2) (kI fun r N hr => ?_)
  obtain ⟨rfl, hq⟩ := hr
  exact a_iret (kX6_never.at 4 rfl) (⟨rfl, hF.trans hq.fp⟩)
noncomputable def wasS (M : Mem) (k w : Int) : Int := if w = 0 then thoughtS M k else sortS M k
theorem c_wasOf (G : GT) (M : Mem) (k w : Int) (hB : BI M) (hQ : QI M) (hk : 0 ≤ k ∧ k < M 44 7) : AM G yX6_wasOf cX6_wasOf 3 (some .int) 7 M [vR 44, vI k, vI w] (pI fun r M' => r = wasS M k w ∧ Fq M M') := by
  refine AM.mk (own := RX6) rfl sv_X6_wasOf.1.2.2.2.2.2 (Nat.le_of_ble_eq_true rfl) rfl ?_
  refine a_iload_n (kX6_wasOf.at 0 rfl) 2 rfl ?_
  refine a_ifne (tgt := 12) (kX6_wasOf.at 1 rfl) (by decide) (fun h1 => ?_) (fun h1 => ?_)
  · refine a_aload_n (kX6_wasOf.at 6 rfl) 0 rfl ?_
    refine a_iload_n (kX6_wasOf.at 7 rfl) 1 rfl ?_
    refine AW.callV (as := [vI k]) (st := []) (kX6_wasOf.at 8 rfl) ml_X6_276 sv_X6_sortOf (k := 44) (io_44) rfl rfl ⟨Nat.le_of_ble_eq_true rfl, Nat.le_of_ble_eq_true rfl⟩ ⟨Nat.le_refl _, Nat.le_refl _⟩ rfl rfl (Nat.le_of_ble_eq_true rfl) (c_sortOf G M k hB hQ hk) (kI fun r N hr => ?_)
    obtain ⟨rfl, hq⟩ := hr
    exact a_iret (kX6_wasOf.at 9 rfl) (⟨by unfold wasS; first | rw [if_pos (by omega)] | rw [if_neg (by omega)], hq⟩)
  · refine a_aload_n (kX6_wasOf.at 2 rfl) 0 rfl ?_
    refine a_iload_n (kX6_wasOf.at 3 rfl) 1 rfl ?_
    refine AW.callV (as := [vI k]) (st := []) (kX6_wasOf.at 4 rfl) ml_X6_273 sv_X6_thoughtOf (k := 44) (io_44) rfl rfl ⟨Nat.le_of_ble_eq_true rfl, Nat.le_of_ble_eq_true rfl⟩ ⟨Nat.le_refl _, Nat.le_refl _⟩ rfl rfl (Nat.le_of_ble_eq_true rfl) (c_thoughtOf G M k hB hQ hk) (kI fun r N hr => ?_)
    obtain ⟨rfl, hq, -⟩ := hr
    refine a_goto (tgt := 17) (kX6_wasOf.at 5 rfl) (by decide) ?_
    exact a_iret (kX6_wasOf.at 9 rfl) (⟨by unfold wasS; first | rw [if_pos (by omega)] | rw [if_neg (by omega)], hq⟩)
noncomputable def o_was (M : Mem) (k w : Int) : Int := if (0 ≤ k ∧ k ≤ find M 44 7 - 1) ∧ 0 ≤ w ∧ w ≤ 1 then wasS (find M) k w else -2
theorem c_was (G : GT) (M : Mem) (k w : Int) (h : MB M) : AM G yX6_was cX6_was 3 (some .int) 8 M [vR 44, vI k, vI w] (pI fun r M' => r = o_was M k w ∧ Fp M M') := by
  refine AM.mk (own := RX6) rfl sv_X6_was.1.2.2.2.2.2 (Nat.le_of_ble_eq_true rfl) rfl ?_
  have hI := h.1
  have hp := find_pr M hI
  have hB := find_BI h
  have hF := find_Fp hI
  refine a_aload_n (kX6_was.at 0 rfl) 0 rfl ?_
  refine AW.callV (as := []) (st := []) (kX6_was.at 1 rfl) ml_X6_203 sv_X6_find (k := 44) (io_44) rfl rfl ⟨Nat.le_of_ble_eq_true rfl, Nat.le_of_ble_eq_true rfl⟩ ⟨Nat.le_refl _, Nat.le_refl _⟩ rfl rfl (Nat.le_of_ble_eq_true rfl) (c_find G M hI) (kVE ?_)
  refine a_aload_n (kX6_was.at 2 rfl) 0 rfl ?_
  refine a_iload_n (kX6_was.at 3 rfl) 1 rfl ?_
  refine AW.callV (as := [vI k]) (st := []) (kX6_was.at 4 rfl) ml_X6_125 sv_X6_isPerson (k := 44) (io_44) rfl rfl ⟨Nat.le_of_ble_eq_true rfl, Nat.le_of_ble_eq_true rfl⟩ ⟨Nat.le_refl _, Nat.le_refl _⟩ rfl rfl (Nat.le_of_ble_eq_true rfl) (c_isPerson G (find M) k (by omega)) (kIE ?_)
  refine a_ifeqB (tgt := 28) (kX6_was.at 5 rfl) (by decide) (fun h9 => ?_) (fun h9 => ?_)
  · refine a_bipush (kX6_was.at 14 rfl) rfl rfl ?_
    exact a_iret (kX6_was.at 15 rfl) (⟨by unfold o_was; first | rw [if_pos (by omega)] | rw [if_neg (by omega)], by first | exact hF.trans hq.fp | exact hF⟩)
  · refine a_iload_n (kX6_was.at 6 rfl) 2 rfl ?_
    refine AW.callS (as := [vI w]) (st := []) (kX6_was.at 7 rfl) ml_X6_219 ss_X6_isTwo ⟨Nat.le_of_ble_eq_true rfl, Nat.le_of_ble_eq_true rfl⟩ ⟨Nat.le_refl _, Nat.le_refl _⟩ rfl rfl (Nat.le_of_ble_eq_true rfl) (c_isTwo G (find M) w) (kIE ?_)
    refine a_ifeqB (tgt := 28) (kX6_was.at 8 rfl) (by decide) (fun h16 => ?_) (fun h16 => ?_)
    · refine a_bipush (kX6_was.at 14 rfl) rfl rfl ?_
      exact a_iret (kX6_was.at 15 rfl) (⟨by unfold o_was; first | rw [if_pos (by omega)] | rw [if_neg (by omega)], by first | exact hF.trans hq.fp | exact hF⟩)
    · refine a_aload_n (kX6_was.at 9 rfl) 0 rfl ?_
      refine a_iload_n (kX6_was.at 10 rfl) 1 rfl ?_
      refine a_iload_n (kX6_was.at 11 rfl) 2 rfl ?_
      refine AW.callV (as := [vI k, vI w]) (st := []) (kX6_was.at 12 rfl) ml_X6_279 sv_X6_wasOf (k := 44) (io_44) rfl rfl ⟨Nat.le_of_ble_eq_true rfl, Nat.le_of_ble_eq_true rfl⟩ ⟨Nat.le_refl _, Nat.le_refl _⟩ rfl rfl (Nat.le_of_ble_eq_true rfl) (c_wasOf G (find M) k w hB.1 hB.2 (by omega)) (kI fun r N hr => ?_)
      obtain ⟨rfl, hq⟩ := hr
      refine a_goto (tgt := 30) (kX6_was.at 13 rfl) (by decide) ?_
      exact a_iret (kX6_was.at 15 rfl) (⟨by unfold o_was; first | rw [if_pos (by omega)] | rw [if_neg (by omega)], by first | exact hF.trans hq.fp | exact hF⟩)
noncomputable def o_ask (M : Mem) (k : Int) : Int := if 0 ≤ k ∧ k ≤ find M 44 7 - 1 then askS (find M) k else -2
theorem c_ask (G : GT) (M : Mem) (k : Int) (h : MB M) : AM G yX6_ask cX6_ask 2 (some .int) 8 M [vR 44, vI k] (pI fun r M' => r = o_ask M k ∧ Fp M M') := by
  refine AM.mk (own := RX6) rfl sv_X6_ask.1.2.2.2.2.2 (Nat.le_of_ble_eq_true rfl) rfl ?_
  have hI := h.1
  have hp := find_pr M hI
  have hB := find_BI h
  have hF := find_Fp hI
  refine a_aload_n (kX6_ask.at 0 rfl) 0 rfl ?_
  refine AW.callV (as := []) (st := []) (kX6_ask.at 1 rfl) ml_X6_203 sv_X6_find (k := 44) (io_44) rfl rfl ⟨Nat.le_of_ble_eq_true rfl, Nat.le_of_ble_eq_true rfl⟩ ⟨Nat.le_refl _, Nat.le_refl _⟩ rfl rfl (Nat.le_of_ble_eq_true rfl) (c_find G M hI) (kVE ?_)
  refine a_aload_n (kX6_ask.at 2 rfl) 0 rfl ?_
  refine a_iload_n (kX6_ask.at 3 rfl) 1 rfl ?_
  refine AW.callV (as := [vI k]) (st := []) (kX6_ask.at 4 rfl) ml_X6_125 sv_X6_isPerson (k := 44) (io_44) rfl rfl ⟨Nat.le_of_ble_eq_true rfl, Nat.le_of_ble_eq_true rfl⟩ ⟨Nat.le_refl _, Nat.le_refl _⟩ rfl rfl (Nat.le_of_ble_eq_true rfl) (c_isPerson G (find M) k (by omega)) (kIE ?_)
  refine a_ifeqB (tgt := 20) (kX6_ask.at 5 rfl) (by decide) (fun h9 => ?_) (fun h9 => ?_)
  · refine a_bipush (kX6_ask.at 10 rfl) rfl rfl ?_
    exact a_iret (kX6_ask.at 11 rfl) (⟨by unfold o_ask; first | rw [if_pos (by omega)] | rw [if_neg (by omega)], by first | exact hF.trans hq.fp | exact hF⟩)
  · refine a_aload_n (kX6_ask.at 6 rfl) 0 rfl ?_
    refine a_iload_n (kX6_ask.at 7 rfl) 1 rfl ?_
    refine AW.callV (as := [vI k]) (st := []) (kX6_ask.at 8 rfl) ml_X6_288 sv_X6_askOf (k := 44) (io_44) rfl rfl ⟨Nat.le_of_ble_eq_true rfl, Nat.le_of_ble_eq_true rfl⟩ ⟨Nat.le_refl _, Nat.le_refl _⟩ rfl rfl (Nat.le_of_ble_eq_true rfl) (c_askOf G (find M) k hB.1 hB.2 (by omega)) (kI fun r N hr => ?_)
    obtain ⟨rfl, hq⟩ := hr
    refine a_goto (tgt := 22) (kX6_ask.at 9 rfl) (by decide) ?_
    exact a_iret (kX6_ask.at 11 rfl) (⟨by unfold o_ask; first | rw [if_pos (by omega)] | rw [if_neg (by omega)], by first | exact hF.trans hq.fp | exact hF⟩)
noncomputable def o_chance (M : Mem) (c k w : Int) : Int := if (0 ≤ c ∧ c ≤ 16) ∧ (0 ≤ k ∧ k ≤ find M 44 7 - 1) ∧ 0 ≤ w ∧ w ≤ 1 then chanceS (find M) c k w else wL ((-9223372036854775808) - (-2))
theorem c_chance (G : GT) (M : Mem) (c k w : Int) (h : MB M) : AM G yX6_chance cX6_chance 4 (some .long) 6 M [vR 44, vI c, vI k, vI w] (pL fun r M' => r = o_chance M c k w ∧ Fp M M') := by
  refine AM.mk (own := RX6) rfl sv_X6_chance.1.2.2.2.2.2 (Nat.le_of_ble_eq_true rfl) rfl ?_
  have hI := h.1
  have hp := find_pr M hI
  have hB := find_BI h
  have hF := find_Fp hI
  refine a_aload_n (kX6_chance.at 0 rfl) 0 rfl ?_
  refine AW.callV (as := []) (st := []) (kX6_chance.at 1 rfl) ml_X6_203 sv_X6_find (k := 44) (io_44) rfl rfl ⟨Nat.le_of_ble_eq_true rfl, Nat.le_of_ble_eq_true rfl⟩ ⟨Nat.le_refl _, Nat.le_refl _⟩ rfl rfl (Nat.le_of_ble_eq_true rfl) (c_find G M hI) (kVE ?_)
  refine a_iload_n (kX6_chance.at 2 rfl) 1 rfl ?_
  refine a_i2l (kX6_chance.at 3 rfl) ?_
  refine a_lconst (kX6_chance.at 4 rfl) 0 rfl rfl ?_
  refine a_ldc2 (kX6_chance.at 5 rfl) cl_X6_295 (16) rfl ⟨by decide, by decide⟩ ?_
  refine AW.callS (as := [vL c, vL 0, vL 16]) (st := []) (kX6_chance.at 6 rfl) ml_X6_70 ss_X6_in ⟨Nat.le_of_ble_eq_true rfl, Nat.le_of_ble_eq_true rfl⟩ ⟨Nat.le_refl _, Nat.le_refl _⟩ rfl rfl (Nat.le_of_ble_eq_true rfl) (c_in G (find M) c 0 16) (kIE ?_)
  refine a_ifeqB (tgt := 41) (kX6_chance.at 7 rfl) (by decide) (fun h13 => ?_) (fun h13 => ?_)
  · refine a_bipush (kX6_chance.at 21 rfl) rfl rfl ?_
    refine AW.callS (as := [vI (-2)]) (st := []) (kX6_chance.at 22 rfl) ml_X6_301 ss_X6_no ⟨Nat.le_of_ble_eq_true rfl, Nat.le_of_ble_eq_true rfl⟩ ⟨Nat.le_refl _, Nat.le_refl _⟩ rfl rfl (Nat.le_of_ble_eq_true rfl) (c_no G (find M) (-2)) (kLE ?_)
    exact a_lret (kX6_chance.at 23 rfl) (⟨by unfold o_chance; first | rw [if_pos (by omega)] | rw [if_neg (by omega)], by first | exact hF.trans hq.fp | exact hF⟩)
  · refine a_aload_n (kX6_chance.at 8 rfl) 0 rfl ?_
    refine a_iload_n (kX6_chance.at 9 rfl) 2 rfl ?_
    refine AW.callV (as := [vI k]) (st := []) (kX6_chance.at 10 rfl) ml_X6_125 sv_X6_isPerson (k := 44) (io_44) rfl rfl ⟨Nat.le_of_ble_eq_true rfl, Nat.le_of_ble_eq_true rfl⟩ ⟨Nat.le_refl _, Nat.le_refl _⟩ rfl rfl (Nat.le_of_ble_eq_true rfl) (c_isPerson G (find M) k (by omega)) (kIE ?_)
    refine a_ifeqB (tgt := 41) (kX6_chance.at 11 rfl) (by decide) (fun h21 => ?_) (fun h21 => ?_)
    · refine a_bipush (kX6_chance.at 21 rfl) rfl rfl ?_
      refine AW.callS (as := [vI (-2)]) (st := []) (kX6_chance.at 22 rfl) ml_X6_301 ss_X6_no ⟨Nat.le_of_ble_eq_true rfl, Nat.le_of_ble_eq_true rfl⟩ ⟨Nat.le_refl _, Nat.le_refl _⟩ rfl rfl (Nat.le_of_ble_eq_true rfl) (c_no G (find M) (-2)) (kLE ?_)
      exact a_lret (kX6_chance.at 23 rfl) (⟨by unfold o_chance; first | rw [if_pos (by omega)] | rw [if_neg (by omega)], by first | exact hF.trans hq.fp | exact hF⟩)
    · refine a_iload_n (kX6_chance.at 12 rfl) 3 rfl ?_
      refine AW.callS (as := [vI w]) (st := []) (kX6_chance.at 13 rfl) ml_X6_219 ss_X6_isTwo ⟨Nat.le_of_ble_eq_true rfl, Nat.le_of_ble_eq_true rfl⟩ ⟨Nat.le_refl _, Nat.le_refl _⟩ rfl rfl (Nat.le_of_ble_eq_true rfl) (c_isTwo G (find M) w) (kIE ?_)
      refine a_ifeqB (tgt := 41) (kX6_chance.at 14 rfl) (by decide) (fun h28 => ?_) (fun h28 => ?_)
      · refine a_bipush (kX6_chance.at 21 rfl) rfl rfl ?_
        refine AW.callS (as := [vI (-2)]) (st := []) (kX6_chance.at 22 rfl) ml_X6_301 ss_X6_no ⟨Nat.le_of_ble_eq_true rfl, Nat.le_of_ble_eq_true rfl⟩ ⟨Nat.le_refl _, Nat.le_refl _⟩ rfl rfl (Nat.le_of_ble_eq_true rfl) (c_no G (find M) (-2)) (kLE ?_)
        exact a_lret (kX6_chance.at 23 rfl) (⟨by unfold o_chance; first | rw [if_pos (by omega)] | rw [if_neg (by omega)], by first | exact hF.trans hq.fp | exact hF⟩)
      · refine a_aload_n (kX6_chance.at 15 rfl) 0 rfl ?_
        refine a_iload_n (kX6_chance.at 16 rfl) 1 rfl ?_
        refine a_iload_n (kX6_chance.at 17 rfl) 2 rfl ?_
        refine a_iload_n (kX6_chance.at 18 rfl) 3 rfl ?_
        refine AW.callV (as := [vI c, vI k, vI w]) (st := []) (kX6_chance.at 19 rfl) ml_X6_297 sv_X6_chanceOf (k := 44) (io_44) rfl rfl ⟨Nat.le_of_ble_eq_true rfl, Nat.le_of_ble_eq_true rfl⟩ ⟨Nat.le_refl _, Nat.le_refl _⟩ rfl rfl (Nat.le_of_ble_eq_true rfl) (c_chanceOf G (find M) c k w hB.1 (by omega) (by omega)) (kL fun r N hr => ?_)
        obtain ⟨rfl, hq⟩ := hr
        refine a_goto (tgt := 46) (kX6_chance.at 20 rfl) (by decide) ?_
        exact a_lret (kX6_chance.at 23 rfl) (⟨by unfold o_chance; first | rw [if_pos (by omega)] | rw [if_neg (by omega)], by first | exact hF.trans hq.fp | exact hF⟩)
noncomputable def o_decades (M : Mem) (seed n w : Int) : Int := if (0 ≤ n ∧ n ≤ 8) ∧ 0 ≤ w ∧ w ≤ 1 then decadesS (find M) seed n w else -2
theorem c_decades (G : GT) (M : Mem) (seed n w : Int) (h : MB M) : AM G yX6_decades cX6_decades 4 (some .int) 6 M [vR 44, vI seed, vI n, vI w] (pI fun r M' => r = o_decades M seed n w ∧ Fp M M') := by
  refine AM.mk (own := RX6) rfl sv_X6_decades.1.2.2.2.2.2 (Nat.le_of_ble_eq_true rfl) rfl ?_
  have hI := h.1
  have hB := find_BI h
  have hF := find_Fp hI
  refine a_aload_n (kX6_decades.at 0 rfl) 0 rfl ?_
  refine AW.callV (as := []) (st := []) (kX6_decades.at 1 rfl) ml_X6_203 sv_X6_find (k := 44) (io_44) rfl rfl ⟨Nat.le_of_ble_eq_true rfl, Nat.le_of_ble_eq_true rfl⟩ ⟨Nat.le_refl _, Nat.le_refl _⟩ rfl rfl (Nat.le_of_ble_eq_true rfl) (c_find G M hI) (kVE ?_)
  refine a_iload_n (kX6_decades.at 2 rfl) 2 rfl ?_
  refine a_i2l (kX6_decades.at 3 rfl) ?_
  refine a_lconst (kX6_decades.at 4 rfl) 0 rfl rfl ?_
  refine a_ldc2 (kX6_decades.at 5 rfl) cl_X6_312 (8) rfl ⟨by decide, by decide⟩ ?_
  refine AW.callS (as := [vL n, vL 0, vL 8]) (st := []) (kX6_decades.at 6 rfl) ml_X6_70 ss_X6_in ⟨Nat.le_of_ble_eq_true rfl, Nat.le_of_ble_eq_true rfl⟩ ⟨Nat.le_refl _, Nat.le_refl _⟩ rfl rfl (Nat.le_of_ble_eq_true rfl) (c_in G (find M) n 0 8) (kIE ?_)
  refine a_ifeqB (tgt := 33) (kX6_decades.at 7 rfl) (by decide) (fun h13 => ?_) (fun h13 => ?_)
  · refine a_bipush (kX6_decades.at 17 rfl) rfl rfl ?_
    exact a_iret (kX6_decades.at 18 rfl) (⟨by unfold o_decades; first | rw [if_pos (by omega)] | rw [if_neg (by omega)], by first | exact hF.trans hq.fp | exact hF⟩)
  · refine a_iload_n (kX6_decades.at 8 rfl) 3 rfl ?_
    refine AW.callS (as := [vI w]) (st := []) (kX6_decades.at 9 rfl) ml_X6_219 ss_X6_isTwo ⟨Nat.le_of_ble_eq_true rfl, Nat.le_of_ble_eq_true rfl⟩ ⟨Nat.le_refl _, Nat.le_refl _⟩ rfl rfl (Nat.le_of_ble_eq_true rfl) (c_isTwo G (find M) w) (kIE ?_)
    refine a_ifeqB (tgt := 33) (kX6_decades.at 10 rfl) (by decide) (fun h20 => ?_) (fun h20 => ?_)
    · refine a_bipush (kX6_decades.at 17 rfl) rfl rfl ?_
      exact a_iret (kX6_decades.at 18 rfl) (⟨by unfold o_decades; first | rw [if_pos (by omega)] | rw [if_neg (by omega)], by first | exact hF.trans hq.fp | exact hF⟩)
    · refine a_aload_n (kX6_decades.at 11 rfl) 0 rfl ?_
      refine a_iload_n (kX6_decades.at 12 rfl) 1 rfl ?_
      refine a_iload_n (kX6_decades.at 13 rfl) 2 rfl ?_
      refine a_iload_n (kX6_decades.at 14 rfl) 3 rfl ?_
      refine AW.callV (as := [vI seed, vI n, vI w]) (st := []) (kX6_decades.at 15 rfl) ml_X6_314 sv_X6_decadesOf (k := 44) (io_44) rfl rfl ⟨Nat.le_of_ble_eq_true rfl, Nat.le_of_ble_eq_true rfl⟩ ⟨Nat.le_refl _, Nat.le_refl _⟩ rfl rfl (Nat.le_of_ble_eq_true rfl) (c_decadesOf G (find M) seed n w hB.1 (by omega)) (kI fun r N hr => ?_)
      obtain ⟨rfl, hq⟩ := hr
      refine a_goto (tgt := 35) (kX6_decades.at 16 rfl) (by decide) ?_
      exact a_iret (kX6_decades.at 18 rfl) (⟨by unfold o_decades; first | rw [if_pos (by omega)] | rw [if_neg (by omega)], by first | exact hF.trans hq.fp | exact hF⟩)
noncomputable def wrF (s k : Int) : Int → Mem → Mem := fun q N => upm N 47 (60 * s + q) (cut (N 45 s) (N 56 (8 * q + k)))
noncomputable def o_write (M : Mem) (k s : Int) : Int × Mem := if (0 ≤ k ∧ k ≤ find M 44 7 - 1) ∧ 0 ≤ s ∧ s ≤ 3 then (if find M 45 s < 0 then (-11, upm (find M) 44 4 1) else (lesser (find M 46 s) 16, forR 0 (lesser (find M 46 s) 16) (wrF s k) (find M))) else (-2, find M)
set_option maxHeartbeats 4000000 in
set_option maxRecDepth 100000 in
theorem l_write (G : GT) (M : Mem) (k s n : Int) (P : Option AV → Mem → Prop) (hs : 0 ≤ s ∧ s ≤ 3) (hk : 0 ≤ k ∧ k ≤ 7) (hn : 0 ≤ n ∧ n ≤ 16) (hlohi : (0 : Int) ≤ n) (kk : AW G RX6 cX6_write 5 (some .int) (XM G 6 P) 97 [(0, vR 44), (1, vI k), (2, vI s), (3, vI n), (4, vI n)] [] (forR 0 n (wrF s k) M)) : AW G RX6 cX6_write 5 (some .int) (XM G 6 P) 52 [(0, vR 44), (1, vI k), (2, vI s), (3, vI n), (4, vI 0)] [] M := by
  have key : ∀ (nn : Nat) (q : Int) (N : Mem), (0 : Int) ≤ q → q ≤ n → N = forR 0 q (wrF s k) M → n - q < nn → AW G RX6 cX6_write 5 (some .int) (XM G 6 P) 52 [(0, vR 44), (1, vI k), (2, vI s), (3, vI n), (4, vI q)] [] N := by
    intro nn
    induction nn with
    | zero => intro q N hk0 hk1 e_N  hn; omega
    | succ nn ih =>
      intro q N hk0 hk1 e_N  hn
      refine a_iload (kX6_write.at 29 rfl) 4 rfl ?_
      refine a_iload_n (kX6_write.at 30 rfl) 3 rfl ?_
      refine a_icmpge (tgt := 97) (kX6_write.at 31 rfl) (by decide) (fun h55 => ?_) (fun h55 => ?_)
      · obtain rfl : q = n := by omega
        subst e_N
        exact kk 
      · refine a_aload_n (kX6_write.at 32 rfl) 0 rfl ?_
        refine a_getR (kX6_write.at 33 rfl) fg_X6_16 ir_44_2 ?_
        refine a_bipush (kX6_write.at 34 rfl) rfl rfl ?_
        refine a_iload_n (kX6_write.at 35 rfl) 2 rfl ?_
        refine a_imul (kX6_write.at 36 rfl) (inr (by omega)) ?_
        refine a_iload (kX6_write.at 37 rfl) 4 rfl ?_
        refine a_iadd (kX6_write.at 38 rfl) (inr (by omega)) ?_
        refine a_aload_n (kX6_write.at 39 rfl) 0 rfl ?_
        refine a_getR (kX6_write.at 40 rfl) fg_X6_7 ir_44_0 ?_
        refine a_iload_n (kX6_write.at 41 rfl) 2 rfl ?_
        refine a_iald (x := N 45 s) (kX6_write.at 42 rfl) (ia_45) (by omega) (rfl) ?_
        refine a_aload_n (kX6_write.at 43 rfl) 0 rfl ?_
        refine a_getR (kX6_write.at 44 rfl) fg_X6_43 ir_44_19 ?_
        refine a_bipush (kX6_write.at 45 rfl) rfl rfl ?_
        refine a_iload (kX6_write.at 46 rfl) 4 rfl ?_
        refine a_imul (kX6_write.at 47 rfl) (inr (by omega)) ?_
        refine a_iload_n (kX6_write.at 48 rfl) 1 rfl ?_
        refine a_iadd (kX6_write.at 49 rfl) (inr (by omega)) ?_
        refine a_iald (x := N 56 ((8 * q) + k)) (kX6_write.at 50 rfl) (ia_56) (by omega) (rfl) ?_
        refine AW.callS (as := [vI (N 45 s), vI (N 56 ((8 * q) + k))]) (st := [vI ((60 * s) + q), vR 47]) (kX6_write.at 51 rfl) ml_X6_93 ss_X6_cut ⟨Nat.le_of_ble_eq_true rfl, Nat.le_of_ble_eq_true rfl⟩ ⟨Nat.le_refl _, Nat.le_refl _⟩ rfl rfl (Nat.le_of_ble_eq_true rfl) (c_cut G N (N 45 s) (N 56 ((8 * q) + k))) (kIE ?_)
        refine a_iast (kX6_write.at 52 rfl) (ia_47) (by omega) ?_
        refine a_iinc (ls' := [(0, vR 44), (1, vI k), (2, vI s), (3, vI n), (4, vI (q + 1))]) (kX6_write.at 53 rfl) 4 rfl (by decide) (inr (by omega)) rfl ?_
        refine a_goto (tgt := 52) (kX6_write.at 54 rfl) (by decide) ?_
        exact ih ((q + 1)) ((upm N 47 ((60 * s) + q) (cut (N 45 s) (N 56 ((8 * q) + k))))) (by omega) (by omega) (by rw [forR_succ hk0, ← e_N] <;> (clear ih kk e_N; rfl)) (by omega)
  exact key ((n) - (0) + 1 : Int).toNat (0) M (Int.le_refl _) hlohi (forR_nil (Int.le_refl _)).symm  (by omega)
theorem c_write (G : GT) (M : Mem) (k s : Int) (h : MB M) : AM G yX6_write cX6_write 5 (some .int) 6 M [vR 44, vI k, vI s] (qI (o_write M k s).1 (o_write M k s).2) := by
  refine AM.mk (own := RX6) rfl sv_X6_write.1.2.2.2.2.2 (Nat.le_of_ble_eq_true rfl) rfl ?_
  have hI := h.1
  have hp := find_pr M hI
  have hF := find_Fp hI
  have hS := (hF.MB h).2.2.2
  refine a_aload_n (kX6_write.at 0 rfl) 0 rfl ?_
  refine AW.callV (as := []) (st := []) (kX6_write.at 1 rfl) ml_X6_203 sv_X6_find (k := 44) (io_44) rfl rfl ⟨Nat.le_of_ble_eq_true rfl, Nat.le_of_ble_eq_true rfl⟩ ⟨Nat.le_refl _, Nat.le_refl _⟩ rfl rfl (Nat.le_of_ble_eq_true rfl) (c_find G M hI) (kVE ?_)
  refine a_aload_n (kX6_write.at 2 rfl) 0 rfl ?_
  refine a_iload_n (kX6_write.at 3 rfl) 1 rfl ?_
  refine AW.callV (as := [vI k]) (st := []) (kX6_write.at 4 rfl) ml_X6_125 sv_X6_isPerson (k := 44) (io_44) rfl rfl ⟨Nat.le_of_ble_eq_true rfl, Nat.le_of_ble_eq_true rfl⟩ ⟨Nat.le_refl _, Nat.le_refl _⟩ rfl rfl (Nat.le_of_ble_eq_true rfl) (c_isPerson G (find M) k (by omega)) (kIE ?_)
  refine a_ifeqB (tgt := 19) (kX6_write.at 5 rfl) (by decide) (fun h9 => ?_) (fun h9 => ?_)
  · refine a_bipush (kX6_write.at 9 rfl) rfl rfl ?_
    exact a_iretE (kX6_write.at 10 rfl) (by unfold o_write; first | (rw [if_pos (by omega)]; first | (rw [if_pos (by omega)]; exact ⟨rfl, rfl⟩) | (rw [if_neg (by omega)]; exact ⟨rfl, rfl⟩)) | (rw [if_neg (by omega)]; exact ⟨rfl, rfl⟩))
  · refine a_iload_n (kX6_write.at 6 rfl) 2 rfl ?_
    refine AW.callS (as := [vI s]) (st := []) (kX6_write.at 7 rfl) ml_X6_79 ss_X6_isSheet ⟨Nat.le_of_ble_eq_true rfl, Nat.le_of_ble_eq_true rfl⟩ ⟨Nat.le_refl _, Nat.le_refl _⟩ rfl rfl (Nat.le_of_ble_eq_true rfl) (c_isSheet G (find M) s) (kIE ?_)
    refine a_ifneB (tgt := 22) (kX6_write.at 8 rfl) (by decide) (fun h16 => ?_) (fun h16 => ?_)
    · refine a_aload_n (kX6_write.at 11 rfl) 0 rfl ?_
      refine a_getR (kX6_write.at 12 rfl) fg_X6_7 ir_44_0 ?_
      refine a_iload_n (kX6_write.at 13 rfl) 2 rfl ?_
      refine a_iald (x := (find M) 45 s) (kX6_write.at 14 rfl) (ia_45) (by omega) (rfl) ?_
      refine a_ifge (tgt := 37) (kX6_write.at 15 rfl) (by decide) (fun h28 => ?_) (fun h28 => ?_)
      · refine a_aload_n (kX6_write.at 20 rfl) 0 rfl ?_
        refine a_getR (kX6_write.at 21 rfl) fg_X6_13 ir_44_1 ?_
        refine a_iload_n (kX6_write.at 22 rfl) 2 rfl ?_
        refine a_iald (x := (find M) 46 s) (kX6_write.at 23 rfl) (ia_46) (by omega) (rfl) ?_
        refine a_bipush (kX6_write.at 24 rfl) rfl rfl ?_
        refine AW.callS (as := [vI ((find M) 46 s), vI 16]) (st := []) (kX6_write.at 25 rfl) ml_X6_243 ss_X6_lesser ⟨Nat.le_of_ble_eq_true rfl, Nat.le_of_ble_eq_true rfl⟩ ⟨Nat.le_refl _, Nat.le_refl _⟩ rfl rfl (Nat.le_of_ble_eq_true rfl) (c_lesser G (find M) ((find M) 46 s) 16) (kIE ?_)
        refine a_istore_n (ls' := [(0, vR 44), (1, vI k), (2, vI s), (3, vI (lesser ((find M) 46 s) 16))]) (kX6_write.at 26 rfl) (by decide) rfl ?_
        have hS2 := hS s (by omega) (by omega)
        have hl : 0 ≤ lesser (find M 46 s) 16 ∧ lesser (find M 46 s) 16 ≤ 16 := by unfold lesser; split <;> omega
        refine a_iconst (kX6_write.at 27 rfl) rfl ?_
        refine a_istore (ls' := [(0, vR 44), (1, vI k), (2, vI s), (3, vI (lesser ((find M) 46 s) 16)), (4, vI 0)]) (kX6_write.at 28 rfl) (by decide) rfl ?_
        refine l_write G (find M) k s _ _ (by omega) (by omega) hl (by omega) ?_
        show AW _ _ _ _ _ _ 97 [(0, vR 44), (1, vI k), (2, vI s), (3, vI (lesser ((find M) 46 s) 16)), (4, vI (lesser (find M 46 s) 16))] [] (forR 0 (lesser (find M 46 s) 16) (wrF s k) (find M))
        refine a_iload_n (kX6_write.at 55 rfl) 3 rfl ?_
        exact a_iretE (kX6_write.at 56 rfl) (by unfold o_write; first | (rw [if_pos (by omega)]; first | (rw [if_pos (by omega)]; exact ⟨rfl, rfl⟩) | (rw [if_neg (by omega)]; exact ⟨rfl, rfl⟩)) | (rw [if_neg (by omega)]; exact ⟨rfl, rfl⟩))
      · refine a_aload_n (kX6_write.at 16 rfl) 0 rfl ?_
        refine a_iconst (kX6_write.at 17 rfl) rfl ?_
        refine AW.callV (as := [vI 1]) (st := []) (kX6_write.at 18 rfl) ml_X6_85 sv_X6_finds (k := 44) (io_44) rfl rfl ⟨Nat.le_of_ble_eq_true rfl, Nat.le_of_ble_eq_true rfl⟩ ⟨Nat.le_refl _, Nat.le_refl _⟩ rfl rfl (Nat.le_of_ble_eq_true rfl) (c_finds G (find M) 1 (by omega)) (kIE ?_)
        exact a_iretE (kX6_write.at 19 rfl) (by unfold o_write; first | (rw [if_pos (by omega)]; first | (rw [if_pos (by omega)]; exact ⟨rfl, rfl⟩) | (rw [if_neg (by omega)]; exact ⟨rfl, rfl⟩)) | (rw [if_neg (by omega)]; exact ⟨rfl, rfl⟩))
    · refine a_bipush (kX6_write.at 9 rfl) rfl rfl ?_
      exact a_iretE (kX6_write.at 10 rfl) (by unfold o_write; first | (rw [if_pos (by omega)]; first | (rw [if_pos (by omega)]; exact ⟨rfl, rfl⟩) | (rw [if_neg (by omega)]; exact ⟨rfl, rfl⟩)) | (rw [if_neg (by omega)]; exact ⟨rfl, rfl⟩))
/-- how many bits -/
noncomputable def popc (b : Int) : Int := forR 0 8 (fun i n => n + bI (isIn b i = true)) 0
theorem pop_step : ∀ b : Fin 256, 0 < b.val → (0 ≤ iAnd (b.val : Int) ((b.val : Int) - 1) ∧ iAnd (b.val : Int) ((b.val : Int) - 1) < (b.val : Int)) ∧ popc (iAnd (b.val : Int) ((b.val : Int) - 1)) = popc (b.val : Int) - 1 := by decide +kernel
theorem pop_0 : popc 0 = 0 := by decide +kernel
set_option maxHeartbeats 4000000 in
set_option maxRecDepth 100000 in
theorem l_ones (G : GT) (M : Mem) (b : Int) : ∀ (n : Nat) (c x : Int), 0 ≤ x → x < n → x ≤ 255 → (0 ≤ c ∧ c ≤ 300 - x) → c + popc x = popc b → AW G RX6 cX6_ones 3 (some .int) (XM G 0 (qI (popc b) M)) 4 [(0, vI b), (1, vI c), (2, vI x)] [] M := by
  intro n
  induction n with
  | zero => intro c x h0 h1; omega
  | succ n ih =>
    intro c x h0 h1 h2 h3 e
    have hs : 0 < x → (0 ≤ iAnd x (x - 1) ∧ iAnd x (x - 1) < x) ∧ popc (iAnd x (x - 1)) = popc x - 1 := fun hx => by
      have := pop_step ⟨x.toNat, by omega⟩ (by show 0 < x.toNat; omega)
      simp only [] at this
      rw [show ((x.toNat : Nat) : Int) = x by omega] at this
      exact this
    refine a_iload_n (kX6_ones.at 4 rfl) 2 rfl ?_
    refine a_ifeq (tgt := 20) (kX6_ones.at 5 rfl) (by decide) (fun h5 => ?_) (fun h5 => ?_)
    · refine a_iload_n (kX6_ones.at 14 rfl) 1 rfl ?_
      exact a_iretE (kX6_ones.at 15 rfl) (⟨by rw [h5, pop_0] at e; omega, rfl⟩)
    · have hs := hs (by omega)
      refine a_iinc (ls' := [(0, vI b), (1, vI (c + 1)), (2, vI x)]) (kX6_ones.at 6 rfl) 1 rfl (by decide) (inr (by omega)) rfl ?_
      refine a_iload_n (kX6_ones.at 7 rfl) 2 rfl ?_
      refine a_iload_n (kX6_ones.at 8 rfl) 2 rfl ?_
      refine a_iconst (kX6_ones.at 9 rfl) rfl ?_
      refine a_isub (kX6_ones.at 10 rfl) (inr (by omega)) ?_
      refine a_iand (kX6_ones.at 11 rfl) ?_
      refine a_istore_n (ls' := [(0, vI b), (1, vI (c + 1)), (2, vI (iAnd x (x - 1)))]) (kX6_ones.at 12 rfl) (by decide) rfl ?_
      refine a_goto (tgt := 4) (kX6_ones.at 13 rfl) (by decide) ?_
      exact ih ((c + 1)) ((iAnd x (x - 1))) hs.1.1 (by omega) (by omega) (by omega) (by rw [hs.2]; omega)
theorem c_ones (G : GT) (M : Mem) (b : Int) (hb : 0 ≤ b ∧ b ≤ 255) : AM G yX6_ones cX6_ones 3 (some .int) 0 M [vI b] (qI (popc b) M) := by
  refine AM.mk (own := RX6) rfl ss_X6_ones.1.2.2.2.2.2 (Nat.le_of_ble_eq_true rfl) rfl ?_
  refine a_iconst (kX6_ones.at 0 rfl) rfl ?_
  refine a_istore_n (ls' := [(0, vI b), (1, vI 0)]) (kX6_ones.at 1 rfl) (by decide) rfl ?_
  refine a_iload_n (kX6_ones.at 2 rfl) 0 rfl ?_
  refine a_istore_n (ls' := [(0, vI b), (1, vI 0), (2, vI b)]) (kX6_ones.at 3 rfl) (by decide) rfl ?_
  exact l_ones G M b 256 0 b hb.1 (by omega) hb.2 (by omega) (by omega)
theorem rootedNow_r {M : Mem} (hp : 0 ≤ M 44 7 ∧ M 44 7 ≤ 8) : 0 ≤ rootedNow M ∧ rootedNow M ≤ 255 := by
  have : 0 ≤ rootedNow M ∧ rootedNow M < 2 ^ 8 := by
    unfold rootedNow
    refine forR_inv (fun _ b => 0 ≤ b ∧ b < 2 ^ 8) hp.1 (by decide) (fun k b h1 h2 hb => ?_)
    refine iOr_lt (by decide) hb ?_
    split
    · exact shl1_r (by omega)
    · decide
  have e : (2 : Int) ^ 8 = 256 := by decide
  omega
noncomputable def o_count (M : Mem) (w : Int) : Int := if w = 0 then find M 44 7 else if w = 1 then M 44 6 else if w = 2 then M 44 9 else if w = 3 ∨ w = 4 ∨ w = 5 then sumBy (find M) (w - 3) else if w = 6 then popc (rootedNow (find M)) else if w = 7 then M 44 28 else if w = 8 then M 44 4 else -2
theorem c_count (G : GT) (M : Mem) (w : Int) (h : MB M) : AM G yX6_count cX6_count 2 (some .int) 6 M [vR 44, vI w] (pI fun r M' => r = o_count M w ∧ Fp M M') := by
  refine AM.mk (own := RX6) rfl sv_X6_count.1.2.2.2.2.2 (Nat.le_of_ble_eq_true rfl) rfl ?_
  have hI := h.1
  have hp := find_pr M hI
  have hF := find_Fp hI
  have hg := find_RG hI
  have hr := rootedNow_r hp
  have e6 : find M 44 6 = M 44 6 := hF 44 6 (by omega) (by omega) (by omega) (by omega) (by omega)
  have e9 : find M 44 9 = M 44 9 := hF 44 9 (by omega) (by omega) (by omega) (by omega) (by omega)
  have e28 : find M 44 28 = M 44 28 := hF 44 28 (by omega) (by omega) (by omega) (by omega) (by omega)
  have e4 : find M 44 4 = M 44 4 := hF 44 4 (by omega) (by omega) (by omega) (by omega) (by omega)
  refine a_aload_n (kX6_count.at 0 rfl) 0 rfl ?_
  refine AW.callV (as := []) (st := []) (kX6_count.at 1 rfl) ml_X6_203 sv_X6_find (k := 44) (io_44) rfl rfl ⟨Nat.le_of_ble_eq_true rfl, Nat.le_of_ble_eq_true rfl⟩ ⟨Nat.le_refl _, Nat.le_refl _⟩ rfl rfl (Nat.le_of_ble_eq_true rfl) (c_find G M hI) (kVE ?_)
  refine a_iload_n (kX6_count.at 2 rfl) 1 rfl ?_
  rcases sw0_8 (x := w) with h5_0 | h5_1 | h5_2 | h5_3 | h5_4 | h5_5 | h5_6 | h5_7 | h5_8 | h5_d
  · refine a_tabIn (off := 51) (tgt := 56) (kX6_count.at 3 rfl) (by omega) (by omega) (by rw [h5_0]; rfl) (by decide) ?_
    refine a_aload_n (kX6_count.at 4 rfl) 0 rfl ?_
    refine a_getI (x := (find M) 44 7) (kX6_count.at 5 rfl) fg_X6_105 ii_44_7 (rfl) ?_
    exact a_iret (kX6_count.at 6 rfl) (⟨by unfold o_count; first | (subst h5_0; rfl) | (subst h5_1; exact e6) | (subst h5_2; exact e9) | (subst h5_3; rfl) | (subst h5_4; rfl) | (subst h5_5; rfl) | (subst h5_6; rfl) | (subst h5_7; exact e28) | (subst h5_8; exact e4) | (rw [if_neg (by omega), if_neg (by omega), if_neg (by omega), if_neg (by omega), if_neg (by omega), if_neg (by omega), if_neg (by omega)]), hF⟩)
  · refine a_tabIn (off := 56) (tgt := 61) (kX6_count.at 3 rfl) (by omega) (by omega) (by rw [h5_1]; rfl) (by decide) ?_
    refine a_aload_n (kX6_count.at 7 rfl) 0 rfl ?_
    refine a_getI (x := (find M) 44 6) (kX6_count.at 8 rfl) fg_X6_100 ii_44_6 (rfl) ?_
    exact a_iret (kX6_count.at 9 rfl) (⟨by unfold o_count; first | (subst h5_0; rfl) | (subst h5_1; exact e6) | (subst h5_2; exact e9) | (subst h5_3; rfl) | (subst h5_4; rfl) | (subst h5_5; rfl) | (subst h5_6; rfl) | (subst h5_7; exact e28) | (subst h5_8; exact e4) | (rw [if_neg (by omega), if_neg (by omega), if_neg (by omega), if_neg (by omega), if_neg (by omega), if_neg (by omega), if_neg (by omega)]), hF⟩)
  · refine a_tabIn (off := 61) (tgt := 66) (kX6_count.at 3 rfl) (by omega) (by omega) (by rw [h5_2]; rfl) (by decide) ?_
    refine a_aload_n (kX6_count.at 10 rfl) 0 rfl ?_
    refine a_getI (x := (find M) 44 9) (kX6_count.at 11 rfl) fg_X6_128 ii_44_9 (rfl) ?_
    exact a_iret (kX6_count.at 12 rfl) (⟨by unfold o_count; first | (subst h5_0; rfl) | (subst h5_1; exact e6) | (subst h5_2; exact e9) | (subst h5_3; rfl) | (subst h5_4; rfl) | (subst h5_5; rfl) | (subst h5_6; rfl) | (subst h5_7; exact e28) | (subst h5_8; exact e4) | (rw [if_neg (by omega), if_neg (by omega), if_neg (by omega), if_neg (by omega), if_neg (by omega), if_neg (by omega), if_neg (by omega)]), hF⟩)
  · refine a_tabIn (off := 66) (tgt := 71) (kX6_count.at 3 rfl) (by omega) (by omega) (by rw [h5_3]; rfl) (by decide) ?_
    refine a_aload_n (kX6_count.at 13 rfl) 0 rfl ?_
    refine a_iload_n (kX6_count.at 14 rfl) 1 rfl ?_
    refine a_iconst (kX6_count.at 15 rfl) rfl ?_
    refine a_isub (kX6_count.at 16 rfl) (inr (by omega)) ?_
    refine AW.callV (as := [vI (w - 3)]) (st := []) (kX6_count.at 17 rfl) ml_X6_231 sv_X6_sumBy (k := 44) (io_44) rfl rfl ⟨Nat.le_of_ble_eq_true rfl, Nat.le_of_ble_eq_true rfl⟩ ⟨Nat.le_refl _, Nat.le_refl _⟩ rfl rfl (Nat.le_of_ble_eq_true rfl) (c_sumBy G (find M) (w - 3) hg) (kIE ?_)
    exact a_iret (kX6_count.at 18 rfl) (⟨by unfold o_count; first | (subst h5_0; rfl) | (subst h5_1; exact e6) | (subst h5_2; exact e9) | (subst h5_3; rfl) | (subst h5_4; rfl) | (subst h5_5; rfl) | (subst h5_6; rfl) | (subst h5_7; exact e28) | (subst h5_8; exact e4) | (rw [if_neg (by omega), if_neg (by omega), if_neg (by omega), if_neg (by omega), if_neg (by omega), if_neg (by omega), if_neg (by omega)]), hF⟩)
  · refine a_tabIn (off := 66) (tgt := 71) (kX6_count.at 3 rfl) (by omega) (by omega) (by rw [h5_4]; rfl) (by decide) ?_
    refine a_aload_n (kX6_count.at 13 rfl) 0 rfl ?_
    refine a_iload_n (kX6_count.at 14 rfl) 1 rfl ?_
    refine a_iconst (kX6_count.at 15 rfl) rfl ?_
    refine a_isub (kX6_count.at 16 rfl) (inr (by omega)) ?_
    refine AW.callV (as := [vI (w - 3)]) (st := []) (kX6_count.at 17 rfl) ml_X6_231 sv_X6_sumBy (k := 44) (io_44) rfl rfl ⟨Nat.le_of_ble_eq_true rfl, Nat.le_of_ble_eq_true rfl⟩ ⟨Nat.le_refl _, Nat.le_refl _⟩ rfl rfl (Nat.le_of_ble_eq_true rfl) (c_sumBy G (find M) (w - 3) hg) (kIE ?_)
    exact a_iret (kX6_count.at 18 rfl) (⟨by unfold o_count; first | (subst h5_0; rfl) | (subst h5_1; exact e6) | (subst h5_2; exact e9) | (subst h5_3; rfl) | (subst h5_4; rfl) | (subst h5_5; rfl) | (subst h5_6; rfl) | (subst h5_7; exact e28) | (subst h5_8; exact e4) | (rw [if_neg (by omega), if_neg (by omega), if_neg (by omega), if_neg (by omega), if_neg (by omega), if_neg (by omega), if_neg (by omega)]), hF⟩)
  · refine a_tabIn (off := 66) (tgt := 71) (kX6_count.at 3 rfl) (by omega) (by omega) (by rw [h5_5]; rfl) (by decide) ?_
    refine a_aload_n (kX6_count.at 13 rfl) 0 rfl ?_
    refine a_iload_n (kX6_count.at 14 rfl) 1 rfl ?_
    refine a_iconst (kX6_count.at 15 rfl) rfl ?_
    refine a_isub (kX6_count.at 16 rfl) (inr (by omega)) ?_
    refine AW.callV (as := [vI (w - 3)]) (st := []) (kX6_count.at 17 rfl) ml_X6_231 sv_X6_sumBy (k := 44) (io_44) rfl rfl ⟨Nat.le_of_ble_eq_true rfl, Nat.le_of_ble_eq_true rfl⟩ ⟨Nat.le_refl _, Nat.le_refl _⟩ rfl rfl (Nat.le_of_ble_eq_true rfl) (c_sumBy G (find M) (w - 3) hg) (kIE ?_)
    exact a_iret (kX6_count.at 18 rfl) (⟨by unfold o_count; first | (subst h5_0; rfl) | (subst h5_1; exact e6) | (subst h5_2; exact e9) | (subst h5_3; rfl) | (subst h5_4; rfl) | (subst h5_5; rfl) | (subst h5_6; rfl) | (subst h5_7; exact e28) | (subst h5_8; exact e4) | (rw [if_neg (by omega), if_neg (by omega), if_neg (by omega), if_neg (by omega), if_neg (by omega), if_neg (by omega), if_neg (by omega)]), hF⟩)
  · refine a_tabIn (off := 74) (tgt := 79) (kX6_count.at 3 rfl) (by omega) (by omega) (by rw [h5_6]; rfl) (by decide) ?_
    refine a_aload_n (kX6_count.at 19 rfl) 0 rfl ?_
    refine AW.callV (as := []) (st := []) (kX6_count.at 20 rfl) ml_X6_234 sv_X6_rootedNow (k := 44) (io_44) rfl rfl ⟨Nat.le_of_ble_eq_true rfl, Nat.le_of_ble_eq_true rfl⟩ ⟨Nat.le_refl _, Nat.le_refl _⟩ rfl rfl (Nat.le_of_ble_eq_true rfl) (c_rootedNow G (find M) hp) (kIE ?_)
    refine AW.callS (as := [vI (rootedNow (find M))]) (st := []) (kX6_count.at 21 rfl) ml_X6_317 ss_X6_ones ⟨Nat.le_of_ble_eq_true rfl, Nat.le_of_ble_eq_true rfl⟩ ⟨Nat.le_refl _, Nat.le_refl _⟩ rfl rfl (Nat.le_of_ble_eq_true rfl) (c_ones G (find M) (rootedNow (find M)) hr) (kIE ?_)
    exact a_iret (kX6_count.at 22 rfl) (⟨by unfold o_count; first | (subst h5_0; rfl) | (subst h5_1; exact e6) | (subst h5_2; exact e9) | (subst h5_3; rfl) | (subst h5_4; rfl) | (subst h5_5; rfl) | (subst h5_6; rfl) | (subst h5_7; exact e28) | (subst h5_8; exact e4) | (rw [if_neg (by omega), if_neg (by omega), if_neg (by omega), if_neg (by omega), if_neg (by omega), if_neg (by omega), if_neg (by omega)]), hF⟩)
  · refine a_tabIn (off := 82) (tgt := 87) (kX6_count.at 3 rfl) (by omega) (by omega) (by rw [h5_7]; rfl) (by decide) ?_
    refine a_aload_n (kX6_count.at 23 rfl) 0 rfl ?_
    refine a_getI (x := (find M) 44 28) (kX6_count.at 24 rfl) fg_X6_263 ii_44_28 (rfl) ?_
    exact a_iret (kX6_count.at 25 rfl) (⟨by unfold o_count; first | (subst h5_0; rfl) | (subst h5_1; exact e6) | (subst h5_2; exact e9) | (subst h5_3; rfl) | (subst h5_4; rfl) | (subst h5_5; rfl) | (subst h5_6; rfl) | (subst h5_7; exact e28) | (subst h5_8; exact e4) | (rw [if_neg (by omega), if_neg (by omega), if_neg (by omega), if_neg (by omega), if_neg (by omega), if_neg (by omega), if_neg (by omega)]), hF⟩)
  · refine a_tabIn (off := 87) (tgt := 92) (kX6_count.at 3 rfl) (by omega) (by omega) (by rw [h5_8]; rfl) (by decide) ?_
    refine a_aload_n (kX6_count.at 26 rfl) 0 rfl ?_
    refine a_getI (x := (find M) 44 4) (kX6_count.at 27 rfl) fg_X6_74 ii_44_4 (rfl) ?_
    exact a_iret (kX6_count.at 28 rfl) (⟨by unfold o_count; first | (subst h5_0; rfl) | (subst h5_1; exact e6) | (subst h5_2; exact e9) | (subst h5_3; rfl) | (subst h5_4; rfl) | (subst h5_5; rfl) | (subst h5_6; rfl) | (subst h5_7; exact e28) | (subst h5_8; exact e4) | (rw [if_neg (by omega), if_neg (by omega), if_neg (by omega), if_neg (by omega), if_neg (by omega), if_neg (by omega), if_neg (by omega)]), hF⟩)
  · refine a_tabOut (tgt := 97) (kX6_count.at 3 rfl) (by omega) (by decide) ?_
    refine a_bipush (kX6_count.at 29 rfl) rfl rfl ?_
    exact a_iret (kX6_count.at 30 rfl) (⟨by unfold o_count; first | (subst h5_0; rfl) | (subst h5_1; exact e6) | (subst h5_2; exact e9) | (subst h5_3; rfl) | (subst h5_4; rfl) | (subst h5_5; rfl) | (subst h5_6; rfl) | (subst h5_7; exact e28) | (subst h5_8; exact e4) | (rw [if_neg (by omega), if_neg (by omega), if_neg (by omega), if_neg (by omega), if_neg (by omega), if_neg (by omega), if_neg (by omega)]), hF⟩)
