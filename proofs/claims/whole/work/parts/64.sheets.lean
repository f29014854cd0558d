/-! ===== the class: sheets ===== -/
theorem k_found (G : GT) (M : Mem) (n : Int) (hn : 1 ≤ n ∧ n ≤ 5) : AM G yX5_found cX5_found 2 (some .int) 0 M [vR 0, vI n] (qI (-10 - n) (upm M 0 10 n)) := by
  refine AM.mk (own := RX5) rfl sv_X5_found.1.2.2.2.2.2 (Nat.le_of_ble_eq_true rfl) rfl ?_
  refine a_aload_n (kX5_found.at 0 rfl) 0 rfl ?_
  refine a_iload_n (kX5_found.at 1 rfl) 1 rfl ?_
  refine a_putI (j := 10) (kX5_found.at 2 rfl) fp_X5_238 (ii_0_10) rfl ?_
  refine a_bipush (kX5_found.at 3 rfl) rfl rfl ?_
  refine a_iload_n (kX5_found.at 4 rfl) 1 rfl ?_
  refine a_isub (kX5_found.at 5 rfl) (inr (by omega)) ?_
  exact a_iretE (kX5_found.at 6 rfl) (⟨rfl, rfl⟩)
theorem Cp_found {M K : Mem} (h : Cp M K) (hB : MB K) (n : Int) : Cp (upm M 0 10 n) (upm K 44 4 n) := by
  have e : ∀ (c : Nat) (x : Int), ¬ (c = 0 ∧ x = 10) → upm M 0 10 n c x = M c x := fun c x a => by
    by_cases ec : c = 0
    · rw [ec, rd_ni (by omega)]
    · rw [rd_ne ec]
  refine h.sh hB (fun c x a => e c x (by omega)) ⟨⟨rfl, rfl, rfl, rfl⟩, fun _ => rfl, fun _ => rfl⟩ ?_ ?_
  · exact (show QK M (upm K 44 4 n) from h.2.2.1).ext fun c x a => e c x (by omega)
  · refine ⟨fun s hs => ?_, rfl⟩
    rw [e (10 + s) 1 (by omega), e (10 + s) 2 (by omega)]
    have z := h.2.2.2.2.1.1 s hs
    exact ⟨z.1, z.2.1, fun a i b c => by rw [e (40 + s) i (by omega)]; exact z.2.2 a i b c⟩
theorem Fz_found (M : Mem) (n : Int) : Fz M (upm M 0 10 n) := fun c x a => rd_ne (by omega)
theorem CS_row {M N K L : Mem} {s : Nat} (h : CS M K) (hI : SI K) (hs : s < 4) (e10 : N 0 10 = M 0 10) (el : L 44 4 = K 44 4)
    (eN : ∀ (r : Nat) (x : Int), r < 4 → r ≠ s → N (10 + r) x = M (10 + r) x ∧ N (40 + r) x = M (40 + r) x)
    (eL : ∀ r : Nat, r < 4 → r ≠ s → L 45 r = K 45 r ∧ L 46 r = K 46 r ∧ ∀ i, 0 ≤ i → i < 60 → L 47 (60 * r + i) = K 47 (60 * r + i))
    (hr : N (10 + s) 1 = L 45 s ∧ N (10 + s) 2 = L 46 s ∧ (0 ≤ L 45 s → ∀ i, 0 ≤ i → i < L 46 s → N (40 + s) i = L 47 (60 * s + i))) : CS N L := by
  refine ⟨fun r hr4 => ?_, by rw [e10, el]; exact h.2⟩
  by_cases e : r = s
  · rw [e]
    exact hr
  · have z := h.1 r hr4
    have y := eL r hr4 e
    have w := (hI r (by omega) (by omega)).2
    rw [(eN r 1 hr4 e).1, (eN r 2 hr4 e).1, y.1, y.2.1]
    exact ⟨z.1, z.2.1, fun a i b c => by rw [(eN r i hr4 e).2, y.2.2 i b (by omega)]; exact z.2.2 a i b c⟩
theorem sh_all (K : Mem) (s : Int) {n : Int} (hn : 0 ≤ n) : (∀ c : Nat, c ≠ 47 → forR 0 n (shF s) K c = K c) ∧ ∀ j, forR 0 n (shF s) K 47 j = if 60 * s ≤ j ∧ j < 60 * s + n then 0 else K 47 j := by
  refine forR_inv (lo := 0) (hi := n) (f := shF s) (a := K) (fun i L => (∀ c : Nat, c ≠ 47 → L c = K c) ∧ ∀ j, L 47 j = if 60 * s ≤ j ∧ j < 60 * s + i then 0 else K 47 j) hn ⟨fun _ _ => rfl, fun j => by rw [if_neg (by omega)]⟩ (fun i L a b hL => ?_)
  unfold shF
  refine ⟨fun c hc => by rw [upm_ne hc]; exact hL.1 c hc, fun j => ?_⟩
  by_cases e : j = 60 * s + i
  · rw [e, rd_eq, if_pos (by omega)]
  · rw [rd_ni e, hL.2 j]
    by_cases e2 : 60 * s ≤ j ∧ j < 60 * s + i
    · rw [if_pos e2, if_pos (by omega)]
    · rw [if_neg e2, if_neg (by omega)]
theorem k_sheet (G : GT) (M K : Mem) (a f n : Int) (hC : Cp M K) (h : MB K) : AM G yX5_sheet cX5_sheet 5 (some .int) 1 M [vR 0, vI a, vI f, vI n] (pI fun r N => r = (o_sheet K a f n).1 ∧ Cp N (o_sheet K a f n).2 ∧ Fz M N) := by
  refine AM.mk (own := RX5) rfl sv_X5_sheet.1.2.2.2.2.2 (Nat.le_of_ble_eq_true rfl) rfl ?_
  refine a_iload_n (kX5_sheet.at 0 rfl) 1 rfl ?_
  refine a_iconst (kX5_sheet.at 1 rfl) rfl ?_
  refine AW.callS (as := [vI a, vI 4]) (st := []) (kX5_sheet.at 2 rfl) ml_X5_74 ss_X5_isBelow ⟨Nat.le_of_ble_eq_true rfl, Nat.le_of_ble_eq_true rfl⟩ ⟨Nat.le_refl _, Nat.le_refl _⟩ rfl rfl (Nat.le_of_ble_eq_true rfl) (k_isBelow G M a 4) (kIE ?_)
  refine a_ifeqB (tgt := 22) (kX5_sheet.at 3 rfl) (by decide) (fun h5 => ?_) (fun h5 => ?_)
  · refine a_bipush (kX5_sheet.at 11 rfl) rfl rfl ?_
    exact a_iret (kX5_sheet.at 12 rfl) (by unfold o_sheet; first | (rw [if_neg (by omega)]; exact ⟨rfl, hC, fun _ _ _ => rfl⟩) | (rw [if_pos (by omega), if_pos (by omega)]; exact ⟨rfl, Cp_found hC h 5, Fz_found M 5⟩) | (rw [if_pos (by omega), if_neg (by omega)]; exact ⟨rfl, hc, hz⟩))
  · refine a_iload_n (kX5_sheet.at 4 rfl) 2 rfl ?_
    refine a_iconst (kX5_sheet.at 5 rfl) rfl ?_
    refine AW.callS (as := [vI f, vI 3]) (st := []) (kX5_sheet.at 6 rfl) ml_X5_74 ss_X5_isBelow ⟨Nat.le_of_ble_eq_true rfl, Nat.le_of_ble_eq_true rfl⟩ ⟨Nat.le_refl _, Nat.le_refl _⟩ rfl rfl (Nat.le_of_ble_eq_true rfl) (k_isBelow G M f 3) (kIE ?_)
    refine a_ifeqB (tgt := 22) (kX5_sheet.at 7 rfl) (by decide) (fun h13 => ?_) (fun h13 => ?_)
    · refine a_bipush (kX5_sheet.at 11 rfl) rfl rfl ?_
      exact a_iret (kX5_sheet.at 12 rfl) (by unfold o_sheet; first | (rw [if_neg (by omega)]; exact ⟨rfl, hC, fun _ _ _ => rfl⟩) | (rw [if_pos (by omega), if_pos (by omega)]; exact ⟨rfl, Cp_found hC h 5, Fz_found M 5⟩) | (rw [if_pos (by omega), if_neg (by omega)]; exact ⟨rfl, hc, hz⟩))
    · refine a_iload_n (kX5_sheet.at 8 rfl) 3 rfl ?_
      refine a_bipush (kX5_sheet.at 9 rfl) rfl rfl ?_
      refine a_icmple (tgt := 25) (kX5_sheet.at 10 rfl) (by decide) (fun h19 => ?_) (fun h19 => ?_)
      · refine a_iload_n (kX5_sheet.at 13 rfl) 3 rfl ?_
        refine a_ifge (tgt := 35) (kX5_sheet.at 14 rfl) (by decide) (fun h26 => ?_) (fun h26 => ?_)
        · refine a_aload_n (kX5_sheet.at 19 rfl) 0 rfl ?_
          refine a_getR (kX5_sheet.at 20 rfl) fg_X5_45 ir_0_6 ?_
          obtain ⟨s, es⟩ := nat_of (x := a) (by omega)
          have hs : s < 4 := by omega
          refine a_iload_n (kX5_sheet.at 21 rfl) 1 rfl ?_
          refine a_aald (j := 10 + s) (kX5_sheet.at 22 rfl) (rs := [10, 11, 12, 13]) rfl (by omega) (row_at (by omega) (by omega)) ?_
          refine a_astore (ls' := [(0, vR 0), (1, vI a), (2, vI f), (3, vI n), (4, vR (10 + s))]) (kX5_sheet.at 23 rfl) (by decide) rfl ?_
          refine a_aload (kX5_sheet.at 24 rfl) 4 rfl ?_
          refine a_iload_n (kX5_sheet.at 25 rfl) 2 rfl ?_
          refine a_putI (j := 1) (kX5_sheet.at 26 rfl) fp_X5_98 (iI_W1 hs) rfl ?_
          refine a_aload (kX5_sheet.at 27 rfl) 4 rfl ?_
          refine a_iload_n (kX5_sheet.at 28 rfl) 3 rfl ?_
          refine a_putI (j := 2) (kX5_sheet.at 29 rfl) fp_X5_105 (iI_W2 hs) rfl ?_
          refine a_aload (kX5_sheet.at 30 rfl) 4 rfl ?_
          refine a_getR (kX5_sheet.at 31 rfl) fg_X5_108 (iR_W0 hs) ?_
          refine a_iconst (kX5_sheet.at 32 rfl) rfl ?_
          refine AW.callS (as := [vR (40 + s), vI 0]) (st := []) (kX5_sheet.at 33 rfl) ml_X5_195 ss_J7_fill_53178 ⟨Nat.le_of_ble_eq_true rfl, Nat.le_of_ble_eq_true rfl⟩ ⟨Nat.le_refl _, Nat.le_refl _⟩ rfl rfl (Nat.le_of_ble_eq_true rfl) (k_fill G (upm (upm M (10 + s) 1 f) (10 + s) 2 n) (40 + s) 60 0 (iA_W hs) ⟨by decide, by decide⟩) (kV fun N1 hN1 => ?_)
          skip
          have hA := sh_all (upm (upm K 45 a f) 46 a n) a (n := n) (by omega)
          have eN : ∀ (c : Nat) (x : Int), c ≠ 40 + s → c ≠ 10 + s → N1 c x = M c x := fun c x u v => by rw [hN1.1 c u, rd_ne v, rd_ne v]
          have hc : Cp N1 (forR 0 n (shF a) (upm (upm K 45 a f) 46 a n)) := by
            refine hC.sh h (fun c x u => eN c x (by omega) (by omega)) ⟨⟨?_, ?_, ?_, ?_⟩, fun j => ?_, fun j => ?_⟩ ?_ (CS_row (s := s) hC.2.2.2.2.1 h.2.2.2 hs (eN 0 10 (by omega) (by omega)) ?_ (fun r x u v => ⟨eN _ _ (by omega) (by omega), eN _ _ (by omega) (by omega)⟩) (fun r u v => ⟨?_, ?_, fun i w y => ?_⟩) ⟨?_, ?_, fun _ i w y => ?_⟩)
            · rw [hA.1 44 (by omega), rd_ne (by omega), rd_ne (by omega)]
            · rw [hA.1 44 (by omega), rd_ne (by omega), rd_ne (by omega)]
            · rw [hA.1 44 (by omega), rd_ne (by omega), rd_ne (by omega)]
            · rw [hA.1 44 (by omega), rd_ne (by omega), rd_ne (by omega)]
            · rw [hA.1 49 (by omega), rd_ne (by omega), rd_ne (by omega)]
            · rw [hA.1 51 (by omega), rd_ne (by omega), rd_ne (by omega)]
            · refine QK.ext (M := M) ⟨?_, ?_, fun i w y => ?_⟩ (fun c x u => eN c x (by omega) (by omega))
              · rw [hA.1 44 (by omega), rd_ne (by omega), rd_ne (by omega)]; exact hC.2.2.1.1
              · rw [hA.1 44 (by omega), rd_ne (by omega), rd_ne (by omega)]; exact hC.2.2.1.2.1
              · rw [hA.1 44 (by omega), rd_ne (by omega), rd_ne (by omega)] at y
                rw [hA.1 60 (by omega), rd_ne (by omega), rd_ne (by omega), rd_ne (by omega), rd_ne (by omega), rd_ne (by omega), rd_ne (by omega)]; exact hC.2.2.1.2.2 i w y
            · rw [hA.1 44 (by omega), rd_ne (by omega), rd_ne (by omega)]
            · rw [hA.1 45 (by omega), rd_ne (by omega), rd_ni (by omega)]
            · rw [hA.1 46 (by omega), rd_ni (by omega), rd_ne (by omega)]
            · rw [hA.2, if_neg (by omega), rd_ne (by omega), rd_ne (by omega)]
            · rw [hN1.1 (10 + s) (by omega), rd_ni (by omega), rd_eq, hA.1 45 (by omega), ← es, rd_ne (by omega), rd_eq]
            · rw [hN1.1 (10 + s) (by omega), rd_eq, hA.1 46 (by omega), ← es, rd_eq]
            · rw [hA.1 46 (by omega), ← es, rd_eq] at y
              rw [hN1.2, hA.2, if_pos (by omega), if_pos (by omega)]
          have hz : Fz M N1 := fun c x u => eN c x (by omega) (by omega)
          refine a_iload_n (kX5_sheet.at 34 rfl) 3 rfl ?_
          exact a_iret (kX5_sheet.at 35 rfl) (by unfold o_sheet; first | (rw [if_neg (by omega)]; exact ⟨rfl, hC, fun _ _ _ => rfl⟩) | (rw [if_pos (by omega), if_pos (by omega)]; exact ⟨rfl, Cp_found hC h 5, Fz_found M 5⟩) | (rw [if_pos (by omega), if_neg (by omega)]; exact ⟨rfl, hc, hz⟩))
        · refine a_aload_n (kX5_sheet.at 15 rfl) 0 rfl ?_
          refine a_iconst (kX5_sheet.at 16 rfl) rfl ?_
          refine AW.callV (as := [vI 5]) (st := []) (kX5_sheet.at 17 rfl) ml_X5_101 sv_X5_found (k := 0) (io_0) rfl rfl ⟨Nat.le_of_ble_eq_true rfl, Nat.le_of_ble_eq_true rfl⟩ ⟨Nat.le_refl _, Nat.le_refl _⟩ rfl rfl (Nat.le_of_ble_eq_true rfl) (k_found G M 5 (by omega)) (kIE ?_)
          exact a_iret (kX5_sheet.at 18 rfl) (by unfold o_sheet; first | (rw [if_neg (by omega)]; exact ⟨rfl, hC, fun _ _ _ => rfl⟩) | (rw [if_pos (by omega), if_pos (by omega)]; exact ⟨rfl, Cp_found hC h 5, Fz_found M 5⟩) | (rw [if_pos (by omega), if_neg (by omega)]; exact ⟨rfl, hc, hz⟩))
      · refine a_bipush (kX5_sheet.at 11 rfl) rfl rfl ?_
        exact a_iret (kX5_sheet.at 12 rfl) (by unfold o_sheet; first | (rw [if_neg (by omega)]; exact ⟨rfl, hC, fun _ _ _ => rfl⟩) | (rw [if_pos (by omega), if_pos (by omega)]; exact ⟨rfl, Cp_found hC h 5, Fz_found M 5⟩) | (rw [if_pos (by omega), if_neg (by omega)]; exact ⟨rfl, hc, hz⟩))
theorem k_lose (G : GT) (M K : Mem) (a : Int) (hC : Cp M K) (h : MB K) : AM G yX5_lose cX5_lose 3 (some .int) 1 M [vR 0, vI a] (pI fun r N => r = (o_lose K a).1 ∧ Cp N (o_lose K a).2 ∧ Fz M N) := by
  refine AM.mk (own := RX5) rfl sv_X5_lose.1.2.2.2.2.2 (Nat.le_of_ble_eq_true rfl) rfl ?_
  refine a_iload_n (kX5_lose.at 0 rfl) 1 rfl ?_
  refine a_iconst (kX5_lose.at 1 rfl) rfl ?_
  refine AW.callS (as := [vI a, vI 4]) (st := []) (kX5_lose.at 2 rfl) ml_X5_74 ss_X5_isBelow ⟨Nat.le_of_ble_eq_true rfl, Nat.le_of_ble_eq_true rfl⟩ ⟨Nat.le_refl _, Nat.le_refl _⟩ rfl rfl (Nat.le_of_ble_eq_true rfl) (k_isBelow G M a 4) (kIE ?_)
  refine a_ifneB (tgt := 11) (kX5_lose.at 3 rfl) (by decide) (fun h5 => ?_) (fun h5 => ?_)
  · refine a_aload_n (kX5_lose.at 6 rfl) 0 rfl ?_
    refine a_getR (kX5_lose.at 7 rfl) fg_X5_45 ir_0_6 ?_
    obtain ⟨s, es⟩ := nat_of (x := a) (by omega)
    have hs : s < 4 := by omega
    have hz := hC.2.2.2.2.1.1 s hs
    rw [← es] at hz
    have hi := h.2.2.2 a (by omega) (by omega)
    have eN : ∀ (c : Nat) (x : Int), ¬ (c = 10 + s ∧ x = 1) → upm M (10 + s) 1 (-1) c x = M c x := fun c x u => by (by_cases ec : c = 10 + s); (rw [ec, rd_ni (by omega)]); (rw [rd_ne ec])
    have hc : Cp (upm M (10 + s) 1 (-1)) (upm K 45 a (-1)) := by
      refine hC.sh h (fun c x u => eN c x (by omega)) ⟨⟨rfl, rfl, rfl, rfl⟩, fun _ => rfl, fun _ => rfl⟩ ((show QK M (upm K 45 a (-1)) from hC.2.2.1).ext fun c x u => eN c x (by omega)) (CS_row (s := s) hC.2.2.2.2.1 h.2.2.2 hs (eN 0 10 (by omega)) rfl (fun r x u v => ⟨eN _ _ (by omega), eN _ _ (by omega)⟩) (fun r u v => ⟨rd_ni (by omega), rfl, fun _ _ _ => rfl⟩) ⟨?_, ?_, fun w => ?_⟩)
      · rw [rd_eq, ← es, rd_eq]
      · rw [rd_ni (by omega), rd_ne (by omega), ← es]; exact hz.2.1
      · rw [← es, rd_eq] at w; omega
    refine a_iload_n (kX5_lose.at 8 rfl) 1 rfl ?_
    refine a_aald (j := 10 + s) (kX5_lose.at 9 rfl) (rs := [10, 11, 12, 13]) rfl (by omega) (row_at (by omega) (by omega)) ?_
    refine a_astore_n (ls' := [(0, vR 0), (1, vI a), (2, vR (10 + s))]) (kX5_lose.at 10 rfl) (by decide) rfl ?_
    refine a_aload_n (kX5_lose.at 11 rfl) 2 rfl ?_
    refine a_getI (x := M (10 + s) 1) (kX5_lose.at 12 rfl) fg_X5_98 (iI_W1 hs) (rfl) ?_
    refine a_iconst (kX5_lose.at 13 rfl) rfl ?_
    refine a_icmpne (tgt := 32) (kX5_lose.at 14 rfl) (by decide) (fun h23 => ?_) (fun h23 => ?_)
    · refine a_aload_n (kX5_lose.at 19 rfl) 2 rfl ?_
      refine a_iconst (kX5_lose.at 20 rfl) rfl ?_
      refine a_putI (j := 1) (kX5_lose.at 21 rfl) fp_X5_98 (iI_W1 hs) rfl ?_
      refine a_aload_n (kX5_lose.at 22 rfl) 2 rfl ?_
      refine a_getI (x := M (10 + s) 2) (kX5_lose.at 23 rfl) fg_X5_105 (iI_W2 hs) (rd_ni (by decide)) ?_
      exact a_iret (kX5_lose.at 24 rfl) (by unfold o_lose; first | (rw [if_neg (by omega)]; exact ⟨rfl, hC, fun _ _ _ => rfl⟩) | (rw [if_pos (by omega), if_pos (by omega)]; exact ⟨rfl, Cp_found hC h 1, Fz_found M 1⟩) | (rw [if_pos (by omega), if_neg (by omega)]; exact ⟨hz.2.1, hc, fun c x u => eN c x (by omega)⟩))
    · refine a_aload_n (kX5_lose.at 15 rfl) 0 rfl ?_
      refine a_iconst (kX5_lose.at 16 rfl) rfl ?_
      refine AW.callV (as := [vI 1]) (st := []) (kX5_lose.at 17 rfl) ml_X5_101 sv_X5_found (k := 0) (io_0) rfl rfl ⟨Nat.le_of_ble_eq_true rfl, Nat.le_of_ble_eq_true rfl⟩ ⟨Nat.le_refl _, Nat.le_refl _⟩ rfl rfl (Nat.le_of_ble_eq_true rfl) (k_found G M 1 (by omega)) (kIE ?_)
      exact a_iret (kX5_lose.at 18 rfl) (by unfold o_lose; first | (rw [if_neg (by omega)]; exact ⟨rfl, hC, fun _ _ _ => rfl⟩) | (rw [if_pos (by omega), if_pos (by omega)]; exact ⟨rfl, Cp_found hC h 1, Fz_found M 1⟩) | (rw [if_pos (by omega), if_neg (by omega)]; exact ⟨hz.2.1, hc, fun c x u => eN c x (by omega)⟩))
  · refine a_bipush (kX5_lose.at 4 rfl) rfl rfl ?_
    exact a_iret (kX5_lose.at 5 rfl) (by unfold o_lose; first | (rw [if_neg (by omega)]; exact ⟨rfl, hC, fun _ _ _ => rfl⟩) | (rw [if_pos (by omega), if_pos (by omega)]; exact ⟨rfl, Cp_found hC h 1, Fz_found M 1⟩) | (rw [if_pos (by omega), if_neg (by omega)]; exact ⟨hz.2.1, hc, fun c x u => eN c x (by omega)⟩))
noncomputable def twS (M : Mem) (s : Nat) (f i : Int) : Int := if M (10 + s) 1 = -1 then 1 else if M (10 + s) 1 ≠ f then 3 else if 0 ≤ i ∧ i < M (10 + s) 2 then 0 else 2
theorem k_trouble (G : GT) (M : Mem) (s : Nat) (f i : Int) (hs : s < 4) : AM G yX2_troubleWith cX2_troubleWith 3 (some .int) 1 M [vR (10 + s), vI f, vI i] (qI (twS M s f i) M) := k_troubleWith G M s f i hs
theorem tw_r (M : Mem) (s : Nat) (f i : Int) : 0 ≤ twS M s f i ∧ twS M s f i ≤ 3 := by
  unfold twS
  (repeat' split) <;> omega
theorem lacks_tw {M K : Mem} {s : Nat} {a f i : Int} (hC : CS M K) (hI : SI K) (hs : s < 4) (es : a = (s : Int)) : (twS M s f i = 0 → lacks K a f i = (0, K) ∧ M (10 + s) 1 = f ∧ K 45 a = f ∧ 0 ≤ f ∧ 0 ≤ i ∧ i < K 46 a ∧ K 46 a ≤ 60) ∧ (¬ twS M s f i = 0 → lacks K a f i = (-10 - twS M s f i, upm K 44 4 (twS M s f i))) := by
  have z := hC.1 s hs
  have w := hI a (by omega) (by omega)
  rw [← es] at z
  by_cases h1 : M (10 + s) 1 = -1
  · have e1 : twS M s f i = 1 := if_pos h1
    have e2 : lacks K a f i = (-11, upm K 44 4 1) := if_pos (by omega)
    rw [e1, e2]
    exact ⟨fun y => by omega, fun _ => rfl⟩
  · by_cases h2 : M (10 + s) 1 = f
    · by_cases h3 : 0 ≤ i ∧ i < M (10 + s) 2
      · have e1 : twS M s f i = 0 := (if_neg h1).trans ((if_neg (fun y => y h2)).trans (if_pos h3))
        have e2 : lacks K a f i = (0, K) := (if_neg (by omega)).trans ((if_pos (by omega)).trans (if_pos (by omega)))
        rw [e1, e2]
        exact ⟨fun _ => ⟨rfl, h2, by omega, by omega, by omega, by omega, by omega⟩, fun y => absurd rfl y⟩
      · have e1 : twS M s f i = 2 := (if_neg h1).trans ((if_neg (fun y => y h2)).trans (if_neg h3))
        have e2 : lacks K a f i = (-12, upm K 44 4 2) := (if_neg (by omega)).trans ((if_pos (by omega)).trans (if_neg (by omega)))
        rw [e1, e2]
        exact ⟨fun y => by omega, fun _ => rfl⟩
    · have e1 : twS M s f i = 3 := (if_neg h1).trans (if_pos h2)
      have e2 : lacks K a f i = (-13, upm K 44 4 3) := (if_neg (by omega)).trans (if_neg (by omega))
      rw [e1, e2]
      exact ⟨fun y => by omega, fun _ => rfl⟩
theorem k_lay (G : GT) (M K : Mem) (a f i v : Int) (hC : Cp M K) (h : MB K) : AM G yX5_lay cX5_lay 7 (some .int) 2 M [vR 0, vI a, vI f, vI i, vI v] (pI fun r N => r = (o_lay K a f i v).1 ∧ Cp N (o_lay K a f i v).2 ∧ Fz M N) := by
  refine AM.mk (own := RX5) rfl sv_X5_lay.1.2.2.2.2.2 (Nat.le_of_ble_eq_true rfl) rfl ?_
  refine a_iload_n (kX5_lay.at 0 rfl) 1 rfl ?_
  refine a_iconst (kX5_lay.at 1 rfl) rfl ?_
  refine AW.callS (as := [vI a, vI 4]) (st := []) (kX5_lay.at 2 rfl) ml_X5_74 ss_X5_isBelow ⟨Nat.le_of_ble_eq_true rfl, Nat.le_of_ble_eq_true rfl⟩ ⟨Nat.le_refl _, Nat.le_refl _⟩ rfl rfl (Nat.le_of_ble_eq_true rfl) (k_isBelow G M a 4) (kIE ?_)
  refine a_ifeqB (tgt := 16) (kX5_lay.at 3 rfl) (by decide) (fun h5 => ?_) (fun h5 => ?_)
  · refine a_bipush (kX5_lay.at 8 rfl) rfl rfl ?_
    exact a_iret (kX5_lay.at 9 rfl) (by unfold o_lay; first | (rw [if_neg (by omega)]; exact ⟨rfl, hC, fun _ _ _ => rfl⟩) | (rw [if_pos (by omega), if_pos (by rw [(hl.1 h38).1])]; exact ⟨rfl, hc, fun c x u => eN c x (by omega)⟩) | (rw [if_pos (by omega), if_neg (by rw [hl.2 h38]; show ¬ (-10 - twS M s f i = 0); omega), hl.2 h38]; exact ⟨rfl, Cp_found hC h _, Fz_found M _⟩))
  · refine a_iload_n (kX5_lay.at 4 rfl) 2 rfl ?_
    refine a_iconst (kX5_lay.at 5 rfl) rfl ?_
    refine AW.callS (as := [vI f, vI 3]) (st := []) (kX5_lay.at 6 rfl) ml_X5_74 ss_X5_isBelow ⟨Nat.le_of_ble_eq_true rfl, Nat.le_of_ble_eq_true rfl⟩ ⟨Nat.le_refl _, Nat.le_refl _⟩ rfl rfl (Nat.le_of_ble_eq_true rfl) (k_isBelow G M f 3) (kIE ?_)
    refine a_ifneB (tgt := 19) (kX5_lay.at 7 rfl) (by decide) (fun h13 => ?_) (fun h13 => ?_)
    · refine a_aload_n (kX5_lay.at 10 rfl) 0 rfl ?_
      refine a_getR (kX5_lay.at 11 rfl) fg_X5_45 ir_0_6 ?_
      obtain ⟨s, es⟩ := nat_of (x := a) (by omega)
      have hs : s < 4 := by omega
      have hz := hC.2.2.2.2.1.1 s hs
      rw [← es] at hz
      have hl := lacks_tw (f := f) (i := i) hC.2.2.2.2.1 h.2.2.2 hs es
      have hr := tw_r M s f i
      refine a_iload_n (kX5_lay.at 12 rfl) 1 rfl ?_
      refine a_aald (j := 10 + s) (kX5_lay.at 13 rfl) (rs := [10, 11, 12, 13]) rfl (by omega) (row_at (by omega) (by omega)) ?_
      refine a_astore (ls' := [(0, vR 0), (1, vI a), (2, vI f), (3, vI i), (4, vI v), (5, vR (10 + s))]) (kX5_lay.at 14 rfl) (by decide) rfl ?_
      refine a_aload (kX5_lay.at 15 rfl) 5 rfl ?_
      refine a_iload_n (kX5_lay.at 16 rfl) 2 rfl ?_
      refine a_iload_n (kX5_lay.at 17 rfl) 3 rfl ?_
      refine AW.callV (as := [vI f, vI i]) (st := []) (kX5_lay.at 18 rfl) ml_X5_231 sv_X2_troubleWith (k := (10 + s)) (iO_W hs) rfl rfl ⟨Nat.le_of_ble_eq_true rfl, Nat.le_of_ble_eq_true rfl⟩ ⟨Nat.le_refl _, Nat.le_refl _⟩ rfl rfl (Nat.le_of_ble_eq_true rfl) (k_trouble G M s f i hs) (kIE ?_)
      refine a_istore (ls' := [(0, vR 0), (1, vI a), (2, vI f), (3, vI i), (4, vI v), (5, vR (10 + s)), (6, vI (twS M s f i))]) (kX5_lay.at 19 rfl) (by decide) rfl ?_
      refine a_iload (kX5_lay.at 20 rfl) 6 rfl ?_
      refine a_ifeq (tgt := 48) (kX5_lay.at 21 rfl) (by decide) (fun h38 => ?_) (fun h38 => ?_)
      · have hl0 := hl.1 h38
        have eN : ∀ (c : Nat) (x : Int), ¬ (c = 40 + s ∧ x = i) → upm M (40 + s) i (if M (10 + s) 1 = 0 then iB v else if M (10 + s) 1 = 1 then iS v else v) c x = M c x := fun c x u => by (by_cases ec : c = 40 + s); (rw [ec, rd_ni (by omega)]); (rw [rd_ne ec])
        have hc : Cp (upm M (40 + s) i (if M (10 + s) 1 = 0 then iB v else if M (10 + s) 1 = 1 then iS v else v)) (upm K 47 (60 * a + i) (cut f v)) := by
          refine hC.sh h (fun c x u => eN c x (by omega)) ⟨⟨rfl, rfl, rfl, rfl⟩, fun _ => rfl, fun _ => rfl⟩ ((show QK M (upm K 47 (60 * a + i) (cut f v)) from hC.2.2.1).ext fun c x u => eN c x (by omega)) (CS_row (s := s) hC.2.2.2.2.1 h.2.2.2 hs (eN 0 10 (by omega)) rfl (fun r x u v => ⟨eN _ _ (by omega), eN _ _ (by omega)⟩) (fun r u v => ⟨rfl, rfl, fun x y w => rd_ni (by omega)⟩) ⟨?_, ?_, fun w x y b => ?_⟩)
          · rw [eN _ _ (by omega), rd_ne (by omega), ← es]; exact hz.1
          · rw [eN _ _ (by omega), rd_ne (by omega), ← es]; exact hz.2.1
          · rw [rd_ne (by omega), ← es] at b w
            rw [← es]
            by_cases ex : x = i
            · rw [ex, rd_eq, rd_eq, hl0.2.1]; rfl
            · rw [rd_ni ex, rd_ni (by omega)]; exact hz.2.2 w x y b
        refine a_aload (kX5_lay.at 26 rfl) 5 rfl ?_
        refine a_iload_n (kX5_lay.at 27 rfl) 3 rfl ?_
        refine a_iload (kX5_lay.at 28 rfl) 4 rfl ?_
        refine AW.callV (as := [vI i, vI v]) (st := []) (kX5_lay.at 29 rfl) ml_X5_234 sv_X2_put (k := (10 + s)) (iO_W hs) rfl rfl ⟨Nat.le_of_ble_eq_true rfl, Nat.le_of_ble_eq_true rfl⟩ ⟨Nat.le_refl _, Nat.le_refl _⟩ rfl rfl (Nat.le_of_ble_eq_true rfl) (k_put G M s i v hs (by omega)) (kVE ?_)
        refine a_iconst (kX5_lay.at 30 rfl) rfl ?_
        exact a_iret (kX5_lay.at 31 rfl) (by unfold o_lay; first | (rw [if_neg (by omega)]; exact ⟨rfl, hC, fun _ _ _ => rfl⟩) | (rw [if_pos (by omega), if_pos (by rw [(hl.1 h38).1])]; exact ⟨rfl, hc, fun c x u => eN c x (by omega)⟩) | (rw [if_pos (by omega), if_neg (by rw [hl.2 h38]; show ¬ (-10 - twS M s f i = 0); omega), hl.2 h38]; exact ⟨rfl, Cp_found hC h _, Fz_found M _⟩))
      · refine a_aload_n (kX5_lay.at 22 rfl) 0 rfl ?_
        refine a_iload (kX5_lay.at 23 rfl) 6 rfl ?_
        refine AW.callV (as := [vI (twS M s f i)]) (st := []) (kX5_lay.at 24 rfl) ml_X5_101 sv_X5_found (k := 0) (io_0) rfl rfl ⟨Nat.le_of_ble_eq_true rfl, Nat.le_of_ble_eq_true rfl⟩ ⟨Nat.le_refl _, Nat.le_refl _⟩ rfl rfl (Nat.le_of_ble_eq_true rfl) (k_found G M (twS M s f i) (by omega)) (kIE ?_)
        exact a_iret (kX5_lay.at 25 rfl) (by unfold o_lay; first | (rw [if_neg (by omega)]; exact ⟨rfl, hC, fun _ _ _ => rfl⟩) | (rw [if_pos (by omega), if_pos (by rw [(hl.1 h38).1])]; exact ⟨rfl, hc, fun c x u => eN c x (by omega)⟩) | (rw [if_pos (by omega), if_neg (by rw [hl.2 h38]; show ¬ (-10 - twS M s f i = 0); omega), hl.2 h38]; exact ⟨rfl, Cp_found hC h _, Fz_found M _⟩))
    · refine a_bipush (kX5_lay.at 8 rfl) rfl rfl ?_
      exact a_iret (kX5_lay.at 9 rfl) (by unfold o_lay; first | (rw [if_neg (by omega)]; exact ⟨rfl, hC, fun _ _ _ => rfl⟩) | (rw [if_pos (by omega), if_pos (by rw [(hl.1 h38).1])]; exact ⟨rfl, hc, fun c x u => eN c x (by omega)⟩) | (rw [if_pos (by omega), if_neg (by rw [hl.2 h38]; show ¬ (-10 - twS M s f i = 0); omega), hl.2 h38]; exact ⟨rfl, Cp_found hC h _, Fz_found M _⟩))
theorem k_get (G : GT) (M K : Mem) (a f i : Int) (hC : Cp M K) (h : MB K) : AM G yX5_get cX5_get 6 (some .int) 2 M [vR 0, vI a, vI f, vI i] (pI fun r N => r = (o_get K a f i).1 ∧ Cp N (o_get K a f i).2 ∧ Fz M N) := by
  refine AM.mk (own := RX5) rfl sv_X5_get.1.2.2.2.2.2 (Nat.le_of_ble_eq_true rfl) rfl ?_
  refine a_iload_n (kX5_get.at 0 rfl) 1 rfl ?_
  refine a_iconst (kX5_get.at 1 rfl) rfl ?_
  refine AW.callS (as := [vI a, vI 4]) (st := []) (kX5_get.at 2 rfl) ml_X5_74 ss_X5_isBelow ⟨Nat.le_of_ble_eq_true rfl, Nat.le_of_ble_eq_true rfl⟩ ⟨Nat.le_refl _, Nat.le_refl _⟩ rfl rfl (Nat.le_of_ble_eq_true rfl) (k_isBelow G M a 4) (kIE ?_)
  refine a_ifeqB (tgt := 16) (kX5_get.at 3 rfl) (by decide) (fun h5 => ?_) (fun h5 => ?_)
  · refine a_ldc (kX5_get.at 8 rfl) cn_X5_237 (-2147483648) rfl rfl ?_
    exact a_iret (kX5_get.at 9 rfl) (by unfold o_get; first | (rw [if_neg (by omega)]; exact ⟨rfl, hC, fun _ _ _ => rfl⟩) | (rw [if_pos (by omega), if_pos (by rw [(hl.1 h38).1])]; exact ⟨ev, hC, fun _ _ _ => rfl⟩) | (rw [if_pos (by omega), if_neg (by rw [hl.2 h38]; show ¬ (-10 - twS M s f i = 0); omega), hl.2 h38]; exact ⟨rfl, Cp_found hC h _, Fz_found M _⟩))
  · refine a_iload_n (kX5_get.at 4 rfl) 2 rfl ?_
    refine a_iconst (kX5_get.at 5 rfl) rfl ?_
    refine AW.callS (as := [vI f, vI 3]) (st := []) (kX5_get.at 6 rfl) ml_X5_74 ss_X5_isBelow ⟨Nat.le_of_ble_eq_true rfl, Nat.le_of_ble_eq_true rfl⟩ ⟨Nat.le_refl _, Nat.le_refl _⟩ rfl rfl (Nat.le_of_ble_eq_true rfl) (k_isBelow G M f 3) (kIE ?_)
    refine a_ifneB (tgt := 19) (kX5_get.at 7 rfl) (by decide) (fun h13 => ?_) (fun h13 => ?_)
    · refine a_aload_n (kX5_get.at 10 rfl) 0 rfl ?_
      refine a_getR (kX5_get.at 11 rfl) fg_X5_45 ir_0_6 ?_
      obtain ⟨s, es⟩ := nat_of (x := a) (by omega)
      have hs : s < 4 := by omega
      have hz := hC.2.2.2.2.1.1 s hs
      rw [← es] at hz
      have hl := lacks_tw (f := f) (i := i) hC.2.2.2.2.1 h.2.2.2 hs es
      have hr := tw_r M s f i
      refine a_iload_n (kX5_get.at 12 rfl) 1 rfl ?_
      refine a_aald (j := 10 + s) (kX5_get.at 13 rfl) (rs := [10, 11, 12, 13]) rfl (by omega) (row_at (by omega) (by omega)) ?_
      refine a_astore (ls' := [(0, vR 0), (1, vI a), (2, vI f), (3, vI i), (4, vR (10 + s))]) (kX5_get.at 14 rfl) (by decide) rfl ?_
      refine a_aload (kX5_get.at 15 rfl) 4 rfl ?_
      refine a_iload_n (kX5_get.at 16 rfl) 2 rfl ?_
      refine a_iload_n (kX5_get.at 17 rfl) 3 rfl ?_
      refine AW.callV (as := [vI f, vI i]) (st := []) (kX5_get.at 18 rfl) ml_X5_231 sv_X2_troubleWith (k := (10 + s)) (iO_W hs) rfl rfl ⟨Nat.le_of_ble_eq_true rfl, Nat.le_of_ble_eq_true rfl⟩ ⟨Nat.le_refl _, Nat.le_refl _⟩ rfl rfl (Nat.le_of_ble_eq_true rfl) (k_trouble G M s f i hs) (kIE ?_)
      refine a_istore (ls' := [(0, vR 0), (1, vI a), (2, vI f), (3, vI i), (4, vR (10 + s)), (5, vI (twS M s f i))]) (kX5_get.at 19 rfl) (by decide) rfl ?_
      refine a_iload (kX5_get.at 20 rfl) 5 rfl ?_
      refine a_ifeq (tgt := 50) (kX5_get.at 21 rfl) (by decide) (fun h38 => ?_) (fun h38 => ?_)
      · have hl0 := hl.1 h38
        have ev := hz.2.2 (by omega) i (by omega) (by omega)
        refine a_aload (kX5_get.at 27 rfl) 4 rfl ?_
        refine a_getR (kX5_get.at 28 rfl) fg_X5_108 (iR_W0 hs) ?_
        refine a_iload_n (kX5_get.at 29 rfl) 3 rfl ?_
        refine a_iald (x := M (40 + s) i) (kX5_get.at 30 rfl) (iA_W hs) (by omega) (rfl) ?_
        exact a_iret (kX5_get.at 31 rfl) (by unfold o_get; first | (rw [if_neg (by omega)]; exact ⟨rfl, hC, fun _ _ _ => rfl⟩) | (rw [if_pos (by omega), if_pos (by rw [(hl.1 h38).1])]; exact ⟨ev, hC, fun _ _ _ => rfl⟩) | (rw [if_pos (by omega), if_neg (by rw [hl.2 h38]; show ¬ (-10 - twS M s f i = 0); omega), hl.2 h38]; exact ⟨rfl, Cp_found hC h _, Fz_found M _⟩))
      · refine a_aload_n (kX5_get.at 22 rfl) 0 rfl ?_
        refine a_iload (kX5_get.at 23 rfl) 5 rfl ?_
        refine a_putI (j := 10) (kX5_get.at 24 rfl) fp_X5_238 (ii_0_10) rfl ?_
        refine a_ldc (kX5_get.at 25 rfl) cn_X5_237 (-2147483648) rfl rfl ?_
        exact a_iret (kX5_get.at 26 rfl) (by unfold o_get; first | (rw [if_neg (by omega)]; exact ⟨rfl, hC, fun _ _ _ => rfl⟩) | (rw [if_pos (by omega), if_pos (by rw [(hl.1 h38).1])]; exact ⟨ev, hC, fun _ _ _ => rfl⟩) | (rw [if_pos (by omega), if_neg (by rw [hl.2 h38]; show ¬ (-10 - twS M s f i = 0); omega), hl.2 h38]; exact ⟨rfl, Cp_found hC h _, Fz_found M _⟩))
    · refine a_ldc (kX5_get.at 8 rfl) cn_X5_237 (-2147483648) rfl rfl ?_
      exact a_iret (kX5_get.at 9 rfl) (by unfold o_get; first | (rw [if_neg (by omega)]; exact ⟨rfl, hC, fun _ _ _ => rfl⟩) | (rw [if_pos (by omega), if_pos (by rw [(hl.1 h38).1])]; exact ⟨ev, hC, fun _ _ _ => rfl⟩) | (rw [if_pos (by omega), if_neg (by rw [hl.2 h38]; show ¬ (-10 - twS M s f i = 0); omega), hl.2 h38]; exact ⟨rfl, Cp_found hC h _, Fz_found M _⟩))
