/-! ===== the class: event, back, walked ===== -/
theorem k_appendE (G : GT) (M : Mem) (a b c : Int) (hn : 0 ≤ M 2 3 ∧ M 2 3 < 8) : AM G yX4_append cX4_append 4 none 0 M [vR 2, vI a, vI b, vI c] (qV (apE M a b c)) := k_append G M 0 a b c (by omega) hn
theorem apE_f (M : Mem) (a b c : Int) (k : Nat) (x : Int) (h : k ≠ 2) (h1 : ¬ (18 ≤ k ∧ k ≤ 20)) : apE M a b c k x = M k x := by
  unfold apE
  rw [rd_ne h, rd_ne (by omega), rd_ne (by omega), rd_ne (by omega)]
theorem k_event (G : GT) (M K : Mem) (a b c : Int) (hC : Cp M K) (h : MB K) : AM G yX5_event cX5_event 4 (some .int) 5 M [vR 0, vI a, vI b, vI c] (pI fun r N => r = (o_event K a b c).1 ∧ Cp N (o_event K a b c).2 ∧ Fz M N) := by
  refine AM.mk (own := RX5) rfl sv_X5_event.1.2.2.2.2.2 (Nat.le_of_ble_eq_true rfl) rfl ?_
  have e9 := hC.1.2.1.1
  have h9 := h.1.2.2
  refine a_iload_n (kX5_event.at 0 rfl) 1 rfl ?_
  refine a_iload_n (kX5_event.at 1 rfl) 2 rfl ?_
  refine a_iload_n (kX5_event.at 2 rfl) 3 rfl ?_
  refine AW.callS (as := [vI a, vI b, vI c]) (st := []) (kX5_event.at 3 rfl) ml_X5_87 ss_X5_mayBeEvent ⟨Nat.le_of_ble_eq_true rfl, Nat.le_of_ble_eq_true rfl⟩ ⟨Nat.le_refl _, Nat.le_refl _⟩ rfl rfl (Nat.le_of_ble_eq_true rfl) (k_mayBeEvent G M a b c) (kIE ?_)
  refine a_ifneB (tgt := 12) (kX5_event.at 4 rfl) (by decide) (fun h6 => ?_) (fun h6 => ?_)
  · refine a_aload_n (kX5_event.at 7 rfl) 0 rfl ?_
    refine a_getR (kX5_event.at 8 rfl) fg_X5_19 ir_0_1 ?_
    refine a_getI (x := M 2 3) (kX5_event.at 9 rfl) fg_X5_91 ii_2_3 (rfl) ?_
    refine a_bipush (kX5_event.at 10 rfl) rfl rfl ?_
    refine a_icmplt (tgt := 27) (kX5_event.at 11 rfl) (by decide) (fun h21 => ?_) (fun h21 => ?_)
    · refine a_aload_n (kX5_event.at 14 rfl) 0 rfl ?_
      refine a_getR (kX5_event.at 15 rfl) fg_X5_19 ir_0_1 ?_
      refine a_iload_n (kX5_event.at 16 rfl) 1 rfl ?_
      refine a_iload_n (kX5_event.at 17 rfl) 2 rfl ?_
      refine a_iload_n (kX5_event.at 18 rfl) 3 rfl ?_
      refine AW.callV (as := [vI a, vI b, vI c]) (st := []) (kX5_event.at 19 rfl) ml_X5_94 sv_X4_append (k := 2) (io_2) rfl rfl ⟨Nat.le_of_ble_eq_true rfl, Nat.le_of_ble_eq_true rfl⟩ ⟨Nat.le_refl _, Nat.le_refl _⟩ rfl rfl (Nat.le_of_ble_eq_true rfl) (k_appendE G M a b c (by omega)) (kVE ?_)
      have hct := CTe_keeps hC.1 (a := a) (b := b) (c := c) (by omega) (by omega) (by omega) (by omega)
      refine a_aload_n (kX5_event.at 20 rfl) 0 rfl ?_
      refine AW.callV (as := []) (st := []) (kX5_event.at 21 rfl) ml_X5_64 sv_X5_retell (k := 0) (io_0) rfl rfl ⟨Nat.le_of_ble_eq_true rfl, Nat.le_of_ble_eq_true rfl⟩ ⟨Nat.le_refl _, Nat.le_refl _⟩ rfl rfl (Nat.le_of_ble_eq_true rfl) (k_retell G (apE M a b c) (keeps K a b c) hct (MB_keeps h a b c (by omega))) (kV fun N1 hN1 => ?_)
      skip
      have e1 : N1 2 3 = M 2 3 + 1 := by rw [hN1.2 2 3 (by omega) (by omega) (by omega) (by omega) (by omega)]; rfl
      have hc1 := Cp_retell hct (show QK (apE M a b c) (keeps K a b c) from hC.2.2.1.ext (fun k x z => apE_f M a b c k x (by omega) (by omega))) (show CS (apE M a b c) (keeps K a b c) from hC.2.2.2.2.1.ext (fun k x z => apE_f M a b c k x (by omega) (by omega))) hN1
      have hz : Fz M N1 := fun k x z => by rw [hN1.2.z k x z, apE_f M a b c k x (by omega) (by omega)]
      refine a_aload_n (kX5_event.at 22 rfl) 0 rfl ?_
      refine a_getR (kX5_event.at 23 rfl) fg_X5_19 ir_0_1 ?_
      refine a_getI (x := N1 2 3) (kX5_event.at 24 rfl) fg_X5_91 ii_2_3 (rfl) ?_
      exact a_iret (kX5_event.at 25 rfl) (by unfold o_event; first | (rw [if_neg (by omega)]; exact ⟨rfl, hC, fun _ _ _ => rfl⟩) | (rw [if_pos (by omega), if_pos (by omega)]; exact ⟨rfl, hC, fun _ _ _ => rfl⟩) | (rw [if_pos (by omega), if_neg (by omega)]; exact ⟨by rw [e1, e9], hc1, hz⟩))
    · refine a_bipush (kX5_event.at 12 rfl) rfl rfl ?_
      exact a_iret (kX5_event.at 13 rfl) (by unfold o_event; first | (rw [if_neg (by omega)]; exact ⟨rfl, hC, fun _ _ _ => rfl⟩) | (rw [if_pos (by omega), if_pos (by omega)]; exact ⟨rfl, hC, fun _ _ _ => rfl⟩) | (rw [if_pos (by omega), if_neg (by omega)]; exact ⟨by rw [e1, e9], hc1, hz⟩))
  · refine a_bipush (kX5_event.at 5 rfl) rfl rfl ?_
    exact a_iret (kX5_event.at 6 rfl) (by unfold o_event; first | (rw [if_neg (by omega)]; exact ⟨rfl, hC, fun _ _ _ => rfl⟩) | (rw [if_pos (by omega), if_pos (by omega)]; exact ⟨rfl, hC, fun _ _ _ => rfl⟩) | (rw [if_pos (by omega), if_neg (by omega)]; exact ⟨by rw [e1, e9], hc1, hz⟩))
theorem CTe_back {M K : Mem} (h : CTe M K) {n : Int} (hn : 0 ≤ n ∧ n ≤ K 44 9) : CTe (upm M 2 3 n) (upm K 44 9 n) := by
  obtain ⟨h1, ⟨h3, h4⟩, h5⟩ := h
  have z := h5.1
  refine ⟨h1, ⟨rfl, fun i d e => ?_⟩, (show 0 ≤ n ∧ n ≤ 8 by omega), fun i d e => ?_⟩
  · have e' : i < n := e
    exact h4 i d (by omega)
  · have e' : i < n := e
    exact h5.2 i d (by omega)
theorem k_back (G : GT) (M K : Mem) (hC : Cp M K) (h : MB K) : AM G yX5_back cX5_back 1 (some .int) 5 M [vR 0] (pI fun r N => r = (o_back K).1 ∧ Cp N (o_back K).2 ∧ Fz M N) := by
  refine AM.mk (own := RX5) rfl sv_X5_back.1.2.2.2.2.2 (Nat.le_of_ble_eq_true rfl) rfl ?_
  have e9 := hC.1.2.1.1
  have h9 := h.1.2.2
  refine a_aload_n (kX5_back.at 0 rfl) 0 rfl ?_
  refine a_getR (kX5_back.at 1 rfl) fg_X5_19 ir_0_1 ?_
  refine a_getI (x := M 2 3) (kX5_back.at 2 rfl) fg_X5_91 ii_2_3 (rfl) ?_
  refine a_ifne (tgt := 13) (kX5_back.at 3 rfl) (by decide) (fun h7 => ?_) (fun h7 => ?_)
  · refine a_aload_n (kX5_back.at 6 rfl) 0 rfl ?_
    refine a_getR (kX5_back.at 7 rfl) fg_X5_19 ir_0_1 ?_
    refine a_dup (kX5_back.at 8 rfl) rfl ?_
    refine a_getI (x := M 2 3) (kX5_back.at 9 rfl) fg_X5_91 ii_2_3 (rfl) ?_
    refine a_iconst (kX5_back.at 10 rfl) rfl ?_
    refine a_isub (kX5_back.at 11 rfl) (inr (by omega)) ?_
    refine a_putI (j := 3) (kX5_back.at 12 rfl) fp_X5_91 (ii_2_3) rfl ?_
    have hct : CTe (upm M 2 3 (M 2 3 - 1)) (upm K 44 9 (K 44 9 - 1)) := by rw [e9]; exact CTe_back hC.1 (by omega)
    refine a_aload_n (kX5_back.at 13 rfl) 0 rfl ?_
    refine AW.callV (as := []) (st := []) (kX5_back.at 14 rfl) ml_X5_64 sv_X5_retell (k := 0) (io_0) rfl rfl ⟨Nat.le_of_ble_eq_true rfl, Nat.le_of_ble_eq_true rfl⟩ ⟨Nat.le_refl _, Nat.le_refl _⟩ rfl rfl (Nat.le_of_ble_eq_true rfl) (k_retell G (upm M 2 3 ((M 2 3) - 1)) (upm K 44 9 (K 44 9 - 1)) hct (MB_back h (by omega))) (kV fun N1 hN1 => ?_)
    skip
    have e1 : N1 2 3 = M 2 3 - 1 := by rw [hN1.2 2 3 (by omega) (by omega) (by omega) (by omega) (by omega), rd_eq]
    have hc1 := Cp_retell hct (show QK (upm M 2 3 (M 2 3 - 1)) (upm K 44 9 (K 44 9 - 1)) from hC.2.2.1.ext (fun c x a => by rw [rd_ne (by omega)])) (show CS (upm M 2 3 (M 2 3 - 1)) (upm K 44 9 (K 44 9 - 1)) from hC.2.2.2.2.1.ext (fun c x a => by rw [rd_ne (by omega)])) hN1
    have hz : Fz M N1 := fun c x a => by rw [hN1.2.z c x a, rd_ne (by omega)]
    refine a_aload_n (kX5_back.at 15 rfl) 0 rfl ?_
    refine a_getR (kX5_back.at 16 rfl) fg_X5_19 ir_0_1 ?_
    refine a_getI (x := N1 2 3) (kX5_back.at 17 rfl) fg_X5_91 ii_2_3 (rfl) ?_
    exact a_iret (kX5_back.at 18 rfl) (by unfold o_back; first | (rw [if_pos (by omega)]; exact ⟨rfl, hC, fun _ _ _ => rfl⟩) | (rw [if_neg (by omega)]; exact ⟨by rw [e1, e9], hc1, hz⟩))
  · refine a_bipush (kX5_back.at 4 rfl) rfl rfl ?_
    exact a_iret (kX5_back.at 5 rfl) (by unfold o_back; first | (rw [if_pos (by omega)]; exact ⟨rfl, hC, fun _ _ _ => rfl⟩) | (rw [if_neg (by omega)]; exact ⟨by rw [e1, e9], hc1, hz⟩))
