/-! ===== the class: type, wipe, undo, event, back ===== -/
theorem MB_len {K : Mem} (h : MB K) {n : Int} (hn : 0 ≤ n ∧ n ≤ K 44 6) : MB (upm K 44 6 n) := by
  refine ⟨⟨(show 0 ≤ n ∧ n ≤ 31 by have := h.1.1; omega), fun i a b => ?_, h.1.2.2⟩, h.2⟩
  have b' : i < n := b
  exact h.1.2.1 i a (by omega)
theorem MB_type {K : Mem} (h : MB K) {b : Int} (hb : 0 ≤ b ∧ b ≤ 255) (hl : K 44 6 < 31) : MB (upm (upm K 49 (K 44 6) b) 44 6 (K 44 6 + 1)) := by
  refine ⟨⟨(show 0 ≤ K 44 6 + 1 ∧ K 44 6 + 1 ≤ 31 by have := h.1.1; omega), fun i a c => ?_, h.1.2.2⟩, h.2⟩
  have c' : i < K 44 6 + 1 := c
  show 0 ≤ ups (K 49) (K 44 6) b i ∧ ups (K 49) (K 44 6) b i ≤ 255
  unfold ups
  split
  · exact hb
  · exact h.1.2.1 i a (by omega)
theorem CTe_type {M K : Mem} (h : CTe M K) (b : Int) : CTe (upm (upm M 14 (M 1 4) b) 1 4 (M 1 4 + 1)) (upm (upm K 49 (K 44 6) b) 44 6 (K 44 6 + 1)) := by
  obtain ⟨⟨h1, h2⟩, h3⟩ := h
  refine ⟨⟨(show M 1 4 + 1 = K 44 6 + 1 by omega), fun i a c => ?_⟩, h3⟩
  have c' : i < K 44 6 + 1 := c
  show ups (M 14) (M 1 4) b i = ups (K 49) (K 44 6) b i
  unfold ups
  rw [h1]
  split
  · rfl
  · exact h2 i a (by omega)
theorem CTe_len {M K : Mem} (h : CTe M K) {n : Int} (hn : n ≤ K 44 6) : CTe (upm M 1 4 n) (upm K 44 6 n) := by
  obtain ⟨⟨h1, h2⟩, h3⟩ := h
  refine ⟨⟨rfl, fun i a c => ?_⟩, h3⟩
  have c' : i < n := c
  exact h2 i a (by omega)
theorem k_type (G : GT) (M K : Mem) (b : Int) (hC : Cp M K) (h : MB K) : AM G yX5_type cX5_type 2 (some .int) 5 M [vR 0, vI b] (pI fun r N => r = (o_type K b).1 ∧ Cp N (o_type K b).2 ∧ Fz M N) := by
  refine AM.mk (own := RX5) rfl sv_X5_type.1.2.2.2.2.2 (Nat.le_of_ble_eq_true rfl) rfl ?_
  have e4 := hC.1.1.1
  have h6 := h.1.1
  refine a_iload_n (kX5_type.at 0 rfl) 1 rfl ?_
  refine a_iflt (tgt := 11) (kX5_type.at 1 rfl) (by decide) (fun h1 => ?_) (fun h1 => ?_)
  · refine a_bipush (kX5_type.at 5 rfl) rfl rfl ?_
    exact a_iret (kX5_type.at 6 rfl) (by unfold o_type; first | (rw [if_neg (by omega)]; exact ⟨rfl, hC, fun _ _ _ => rfl⟩) | (rw [if_pos (by omega), if_pos (by omega)]; exact ⟨rfl, hC, fun _ _ _ => rfl⟩) | (rw [if_pos (by omega), if_neg (by omega)]; exact ⟨by rw [e1, e4], hc1, hz⟩))
  · refine a_iload_n (kX5_type.at 2 rfl) 1 rfl ?_
    refine a_sipush (kX5_type.at 3 rfl) rfl rfl ?_
    refine a_icmple (tgt := 14) (kX5_type.at 4 rfl) (by decide) (fun h8 => ?_) (fun h8 => ?_)
    · refine a_aload_n (kX5_type.at 7 rfl) 0 rfl ?_
      refine a_getR (kX5_type.at 8 rfl) fg_X5_10 ir_0_0 ?_
      refine a_getI (x := M 1 4) (kX5_type.at 9 rfl) fg_X5_57 ii_1_4 (rfl) ?_
      refine a_bipush (kX5_type.at 10 rfl) rfl rfl ?_
      refine a_icmplt (tgt := 29) (kX5_type.at 11 rfl) (by decide) (fun h23 => ?_) (fun h23 => ?_)
      · refine a_aload_n (kX5_type.at 14 rfl) 0 rfl ?_
        refine a_getR (kX5_type.at 15 rfl) fg_X5_10 ir_0_0 ?_
        refine a_getR (kX5_type.at 16 rfl) fg_X5_61 ir_1_0 ?_
        refine a_aload_n (kX5_type.at 17 rfl) 0 rfl ?_
        refine a_getR (kX5_type.at 18 rfl) fg_X5_10 ir_0_0 ?_
        refine a_getI (x := M 1 4) (kX5_type.at 19 rfl) fg_X5_57 ii_1_4 (rfl) ?_
        refine a_iload_n (kX5_type.at 20 rfl) 1 rfl ?_
        refine a_iast (kX5_type.at 21 rfl) (ia_14) (by omega) ?_
        refine a_aload_n (kX5_type.at 22 rfl) 0 rfl ?_
        refine a_getR (kX5_type.at 23 rfl) fg_X5_10 ir_0_0 ?_
        refine a_dup (kX5_type.at 24 rfl) rfl ?_
        refine a_getI (x := M 1 4) (kX5_type.at 25 rfl) fg_X5_57 ii_1_4 (rd_ne (by decide)) ?_
        refine a_iconst (kX5_type.at 26 rfl) rfl ?_
        refine a_iadd (kX5_type.at 27 rfl) (inr (by omega)) ?_
        refine a_putI (j := 4) (kX5_type.at 28 rfl) fp_X5_57 (ii_1_4) rfl ?_
        refine a_aload_n (kX5_type.at 29 rfl) 0 rfl ?_
        refine AW.callV (as := []) (st := []) (kX5_type.at 30 rfl) ml_X5_64 sv_X5_retell (k := 0) (io_0) rfl rfl ⟨Nat.le_of_ble_eq_true rfl, Nat.le_of_ble_eq_true rfl⟩ ⟨Nat.le_refl _, Nat.le_refl _⟩ rfl rfl (Nat.le_of_ble_eq_true rfl) (k_retell G (upm (upm M 14 (M 1 4) b) 1 4 ((M 1 4) + 1)) (upm (upm K 49 (K 44 6) b) 44 6 (K 44 6 + 1)) (CTe_type hC.1 b) (MB_type h (by omega) (by omega))) (kV fun N1 hN1 => ?_)
        skip
        have hE1 := hN1.2
        have e1 : N1 1 4 = M 1 4 + 1 := by rw [hE1 1 4 (by omega) (by omega) (by omega) (by omega) (by omega), rd_eq]
        have hc1 := Cp_retell (CTe_type hC.1 b) (K := upm (upm K 49 (K 44 6) b) 44 6 (K 44 6 + 1)) (show QK (upm (upm M 14 (M 1 4) b) 1 4 (M 1 4 + 1)) (upm (upm K 49 (K 44 6) b) 44 6 (K 44 6 + 1)) from hC.2.2.1.ext (fun c x a => by rw [rd_ne (by omega), rd_ne (by omega)])) (show CS (upm (upm M 14 (M 1 4) b) 1 4 (M 1 4 + 1)) (upm (upm K 49 (K 44 6) b) 44 6 (K 44 6 + 1)) from hC.2.2.2.2.1.ext (fun c x a => by rw [rd_ne (by omega), rd_ne (by omega)])) hN1
        have hz : Fz M N1 := fun c x a => by rw [hE1.z c x a, rd_ne (by omega), rd_ne (by omega)]
        refine a_aload_n (kX5_type.at 31 rfl) 0 rfl ?_
        refine a_getR (kX5_type.at 32 rfl) fg_X5_10 ir_0_0 ?_
        refine a_getI (x := N1 1 4) (kX5_type.at 33 rfl) fg_X5_57 ii_1_4 (rfl) ?_
        exact a_iret (kX5_type.at 34 rfl) (by unfold o_type; first | (rw [if_neg (by omega)]; exact ⟨rfl, hC, fun _ _ _ => rfl⟩) | (rw [if_pos (by omega), if_pos (by omega)]; exact ⟨rfl, hC, fun _ _ _ => rfl⟩) | (rw [if_pos (by omega), if_neg (by omega)]; exact ⟨by rw [e1, e4], hc1, hz⟩))
      · refine a_bipush (kX5_type.at 12 rfl) rfl rfl ?_
        exact a_iret (kX5_type.at 13 rfl) (by unfold o_type; first | (rw [if_neg (by omega)]; exact ⟨rfl, hC, fun _ _ _ => rfl⟩) | (rw [if_pos (by omega), if_pos (by omega)]; exact ⟨rfl, hC, fun _ _ _ => rfl⟩) | (rw [if_pos (by omega), if_neg (by omega)]; exact ⟨by rw [e1, e4], hc1, hz⟩))
    · refine a_bipush (kX5_type.at 5 rfl) rfl rfl ?_
      exact a_iret (kX5_type.at 6 rfl) (by unfold o_type; first | (rw [if_neg (by omega)]; exact ⟨rfl, hC, fun _ _ _ => rfl⟩) | (rw [if_pos (by omega), if_pos (by omega)]; exact ⟨rfl, hC, fun _ _ _ => rfl⟩) | (rw [if_pos (by omega), if_neg (by omega)]; exact ⟨by rw [e1, e4], hc1, hz⟩))
theorem k_wipe (G : GT) (M K : Mem) (hC : Cp M K) (h : MB K) : AM G yX5_wipe cX5_wipe 2 (some .int) 5 M [vR 0] (pI fun r N => r = K 44 6 ∧ Cp N (upm K 44 6 0) ∧ Fz M N) := by
  refine AM.mk (own := RX5) rfl sv_X5_wipe.1.2.2.2.2.2 (Nat.le_of_ble_eq_true rfl) rfl ?_
  have e4 := hC.1.1.1
  have h6 := h.1.1
  refine a_aload_n (kX5_wipe.at 0 rfl) 0 rfl ?_
  refine a_getR (kX5_wipe.at 1 rfl) fg_X5_10 ir_0_0 ?_
  refine a_getI (x := M 1 4) (kX5_wipe.at 2 rfl) fg_X5_57 ii_1_4 (rfl) ?_
  refine a_istore_n (ls' := [(0, vR 0), (1, vI (M 1 4))]) (kX5_wipe.at 3 rfl) (by decide) rfl ?_
  refine a_aload_n (kX5_wipe.at 4 rfl) 0 rfl ?_
  refine a_getR (kX5_wipe.at 5 rfl) fg_X5_10 ir_0_0 ?_
  refine a_iconst (kX5_wipe.at 6 rfl) rfl ?_
  refine a_putI (j := 4) (kX5_wipe.at 7 rfl) fp_X5_57 (ii_1_4) rfl ?_
  refine a_aload_n (kX5_wipe.at 8 rfl) 0 rfl ?_
  refine AW.callV (as := []) (st := []) (kX5_wipe.at 9 rfl) ml_X5_64 sv_X5_retell (k := 0) (io_0) rfl rfl ⟨Nat.le_of_ble_eq_true rfl, Nat.le_of_ble_eq_true rfl⟩ ⟨Nat.le_refl _, Nat.le_refl _⟩ rfl rfl (Nat.le_of_ble_eq_true rfl) (k_retell G (upm M 1 4 0) (upm K 44 6 0) (CTe_len hC.1 (by omega)) (MB_len h (by omega))) (kV fun N1 hN1 => ?_)
  skip
  refine a_iload_n (kX5_wipe.at 10 rfl) 1 rfl ?_
  exact a_iret (kX5_wipe.at 11 rfl) (⟨e4, Cp_retell (CTe_len hC.1 (by omega)) (show QK (upm M 1 4 0) (upm K 44 6 0) from hC.2.2.1.ext (fun c x a => by rw [rd_ne (by omega)])) (show CS (upm M 1 4 0) (upm K 44 6 0) from hC.2.2.2.2.1.ext (fun c x a => by rw [rd_ne (by omega)])) hN1, fun c x a => by rw [hN1.2.z c x a, rd_ne (by omega)]⟩)
theorem k_undo (G : GT) (M K : Mem) (hC : Cp M K) (h : MB K) : AM G yX5_undo cX5_undo 1 (some .int) 5 M [vR 0] (pI fun r N => r = (o_undo K).1 ∧ Cp N (o_undo K).2 ∧ Fz M N) := by
  refine AM.mk (own := RX5) rfl sv_X5_undo.1.2.2.2.2.2 (Nat.le_of_ble_eq_true rfl) rfl ?_
  have e4 := hC.1.1.1
  have h6 := h.1.1
  have hct : CTe (upm M 1 4 (M 1 4 - 1)) (upm K 44 6 (K 44 6 - 1)) := by rw [e4]; exact CTe_len hC.1 (by omega)
  refine a_aload_n (kX5_undo.at 0 rfl) 0 rfl ?_
  refine a_getR (kX5_undo.at 1 rfl) fg_X5_10 ir_0_0 ?_
  refine a_getI (x := M 1 4) (kX5_undo.at 2 rfl) fg_X5_57 ii_1_4 (rfl) ?_
  refine a_ifne (tgt := 13) (kX5_undo.at 3 rfl) (by decide) (fun h7 => ?_) (fun h7 => ?_)
  · refine a_aload_n (kX5_undo.at 6 rfl) 0 rfl ?_
    refine a_getR (kX5_undo.at 7 rfl) fg_X5_10 ir_0_0 ?_
    refine a_dup (kX5_undo.at 8 rfl) rfl ?_
    refine a_getI (x := M 1 4) (kX5_undo.at 9 rfl) fg_X5_57 ii_1_4 (rfl) ?_
    refine a_iconst (kX5_undo.at 10 rfl) rfl ?_
    refine a_isub (kX5_undo.at 11 rfl) (inr (by omega)) ?_
    refine a_putI (j := 4) (kX5_undo.at 12 rfl) fp_X5_57 (ii_1_4) rfl ?_
    refine a_aload_n (kX5_undo.at 13 rfl) 0 rfl ?_
    refine AW.callV (as := []) (st := []) (kX5_undo.at 14 rfl) ml_X5_64 sv_X5_retell (k := 0) (io_0) rfl rfl ⟨Nat.le_of_ble_eq_true rfl, Nat.le_of_ble_eq_true rfl⟩ ⟨Nat.le_refl _, Nat.le_refl _⟩ rfl rfl (Nat.le_of_ble_eq_true rfl) (k_retell G (upm M 1 4 ((M 1 4) - 1)) (upm K 44 6 (K 44 6 - 1)) hct (MB_len h (by omega))) (kV fun N1 hN1 => ?_)
    skip
    have e1 : N1 1 4 = M 1 4 - 1 := by rw [hN1.2 1 4 (by omega) (by omega) (by omega) (by omega) (by omega), rd_eq]
    have hc1 := Cp_retell hct (show QK (upm M 1 4 (M 1 4 - 1)) (upm K 44 6 (K 44 6 - 1)) from hC.2.2.1.ext (fun c x a => by rw [rd_ne (by omega)])) (show CS (upm M 1 4 (M 1 4 - 1)) (upm K 44 6 (K 44 6 - 1)) from hC.2.2.2.2.1.ext (fun c x a => by rw [rd_ne (by omega)])) hN1
    have hz : Fz M N1 := fun c x a => by rw [hN1.2.z c x a, rd_ne (by omega)]
    refine a_aload_n (kX5_undo.at 15 rfl) 0 rfl ?_
    refine a_getR (kX5_undo.at 16 rfl) fg_X5_10 ir_0_0 ?_
    refine a_getI (x := N1 1 4) (kX5_undo.at 17 rfl) fg_X5_57 ii_1_4 (rfl) ?_
    exact a_iret (kX5_undo.at 18 rfl) (by unfold o_undo; first | (rw [if_pos (by omega)]; exact ⟨rfl, hC, fun _ _ _ => rfl⟩) | (rw [if_neg (by omega)]; exact ⟨by rw [e1, e4], hc1, hz⟩))
  · refine a_bipush (kX5_undo.at 4 rfl) rfl rfl ?_
    exact a_iret (kX5_undo.at 5 rfl) (by unfold o_undo; first | (rw [if_pos (by omega)]; exact ⟨rfl, hC, fun _ _ _ => rfl⟩) | (rw [if_neg (by omega)]; exact ⟨by rw [e1, e4], hc1, hz⟩))
