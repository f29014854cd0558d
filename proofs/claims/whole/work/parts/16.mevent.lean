/-! ===== the reference: events, what was seen ===== -/
noncomputable def keeps (M : Mem) (a b c : Int) : Mem := upm (upm (upm (upm M 51 (3 * M 44 9) a) 51 (3 * M 44 9 + 1) b) 51 (3 * M 44 9 + 2) c) 44 9 (M 44 9 + 1)
theorem c_keeps (G : GT) (M : Mem) (a b c : Int) (he : 0 ≤ M 44 9 ∧ M 44 9 ≤ 7) : AM G yX6_keeps cX6_keeps 4 none 0 M [vR 44, vI a, vI b, vI c] (qV (keeps M a b c)) := by
  refine AM.mk (own := RX6) rfl sv_X6_keeps.1.2.2.2.2.2 (Nat.le_of_ble_eq_true rfl) rfl ?_
  refine a_aload_n (kX6_keeps.at 0 rfl) 0 rfl ?_
  refine a_getR (kX6_keeps.at 1 rfl) fg_X6_28 ir_44_10 ?_
  refine a_iconst (kX6_keeps.at 2 rfl) rfl ?_
  refine a_aload_n (kX6_keeps.at 3 rfl) 0 rfl ?_
  refine a_getI (x := M 44 9) (kX6_keeps.at 4 rfl) fg_X6_128 ii_44_9 (rfl) ?_
  refine a_imul (kX6_keeps.at 5 rfl) (inr (by omega)) ?_
  refine a_iload_n (kX6_keeps.at 6 rfl) 1 rfl ?_
  refine a_iast (kX6_keeps.at 7 rfl) (ia_51) (by omega) ?_
  refine a_aload_n (kX6_keeps.at 8 rfl) 0 rfl ?_
  refine a_getR (kX6_keeps.at 9 rfl) fg_X6_28 ir_44_10 ?_
  refine a_iconst (kX6_keeps.at 10 rfl) rfl ?_
  refine a_aload_n (kX6_keeps.at 11 rfl) 0 rfl ?_
  refine a_getI (x := M 44 9) (kX6_keeps.at 12 rfl) fg_X6_128 ii_44_9 (rd_ne (by decide)) ?_
  refine a_imul (kX6_keeps.at 13 rfl) (inr (by omega)) ?_
  refine a_iconst (kX6_keeps.at 14 rfl) rfl ?_
  refine a_iadd (kX6_keeps.at 15 rfl) (inr (by omega)) ?_
  refine a_iload_n (kX6_keeps.at 16 rfl) 2 rfl ?_
  refine a_iast (kX6_keeps.at 17 rfl) (ia_51) (by omega) ?_
  refine a_aload_n (kX6_keeps.at 18 rfl) 0 rfl ?_
  refine a_getR (kX6_keeps.at 19 rfl) fg_X6_28 ir_44_10 ?_
  refine a_iconst (kX6_keeps.at 20 rfl) rfl ?_
  refine a_aload_n (kX6_keeps.at 21 rfl) 0 rfl ?_
  refine a_getI (x := M 44 9) (kX6_keeps.at 22 rfl) fg_X6_128 ii_44_9 ((rd_ne (by decide)).trans (rd_ne (by decide))) ?_
  refine a_imul (kX6_keeps.at 23 rfl) (inr (by omega)) ?_
  refine a_iconst (kX6_keeps.at 24 rfl) rfl ?_
  refine a_iadd (kX6_keeps.at 25 rfl) (inr (by omega)) ?_
  refine a_iload_n (kX6_keeps.at 26 rfl) 3 rfl ?_
  refine a_iast (kX6_keeps.at 27 rfl) (ia_51) (by omega) ?_
  refine a_aload_n (kX6_keeps.at 28 rfl) 0 rfl ?_
  refine a_dup (kX6_keeps.at 29 rfl) rfl ?_
  refine a_getI (x := M 44 9) (kX6_keeps.at 30 rfl) fg_X6_128 ii_44_9 ((rd_ne (by decide)).trans ((rd_ne (by decide)).trans (rd_ne (by decide)))) ?_
  refine a_iconst (kX6_keeps.at 31 rfl) rfl ?_
  refine a_iadd (kX6_keeps.at 32 rfl) (inr (by omega)) ?_
  refine a_putI (j := 9) (kX6_keeps.at 33 rfl) fp_X6_128 (ii_44_9) rfl ?_
  exact a_vretE (kX6_keeps.at 34 rfl) (rfl)
noncomputable def o_event (M : Mem) (a b c : Int) : Int × Mem := if (0 ≤ a ∧ a ≤ 3) ∧ (0 ≤ b ∧ b ≤ 15) ∧ (0 ≤ c ∧ c ≤ 7) then (if M 44 9 = 8 then (-4, M) else (M 44 9 + 1, keeps M a b c)) else (-2, M)
theorem c_event (G : GT) (M : Mem) (a b c : Int) (he : 0 ≤ M 44 9 ∧ M 44 9 ≤ 8) : AM G yX6_event cX6_event 4 (some .int) 2 M [vR 44, vI a, vI b, vI c] (qI (o_event M a b c).1 (o_event M a b c).2) := by
  refine AM.mk (own := RX6) rfl sv_X6_event.1.2.2.2.2.2 (Nat.le_of_ble_eq_true rfl) rfl ?_
  refine a_iload_n (kX6_event.at 0 rfl) 1 rfl ?_
  refine a_i2l (kX6_event.at 1 rfl) ?_
  refine a_lconst (kX6_event.at 2 rfl) 0 rfl rfl ?_
  refine a_ldc2 (kX6_event.at 3 rfl) cl_X6_77 (3) rfl ⟨by decide, by decide⟩ ?_
  refine AW.callS (as := [vL a, vL 0, vL 3]) (st := []) (kX6_event.at 4 rfl) ml_X6_70 ss_X6_in ⟨Nat.le_of_ble_eq_true rfl, Nat.le_of_ble_eq_true rfl⟩ ⟨Nat.le_refl _, Nat.le_refl _⟩ rfl rfl (Nat.le_of_ble_eq_true rfl) (c_in G M a 0 3) (kIE ?_)
  refine a_ifeqB (tgt := 31) (kX6_event.at 5 rfl) (by decide) (fun h9 => ?_) (fun h9 => ?_)
  · refine a_bipush (kX6_event.at 15 rfl) rfl rfl ?_
    exact a_iretE (kX6_event.at 16 rfl) (by first | (exfalso; omega) | (unfold o_event; (repeat' split) <;> first | (exfalso; omega) | exact ⟨rfl, rfl⟩))
  · refine a_iload_n (kX6_event.at 6 rfl) 2 rfl ?_
    refine AW.callS (as := [vI b]) (st := []) (kX6_event.at 7 rfl) ml_X6_131 ss_X6_isQuarter ⟨Nat.le_of_ble_eq_true rfl, Nat.le_of_ble_eq_true rfl⟩ ⟨Nat.le_refl _, Nat.le_refl _⟩ rfl rfl (Nat.le_of_ble_eq_true rfl) (c_isQuarter G M b) (kIE ?_)
    refine a_ifeqB (tgt := 31) (kX6_event.at 8 rfl) (by decide) (fun h16 => ?_) (fun h16 => ?_)
    · refine a_bipush (kX6_event.at 15 rfl) rfl rfl ?_
      exact a_iretE (kX6_event.at 16 rfl) (by first | (exfalso; omega) | (unfold o_event; (repeat' split) <;> first | (exfalso; omega) | exact ⟨rfl, rfl⟩))
    · refine a_iload_n (kX6_event.at 9 rfl) 3 rfl ?_
      refine a_i2l (kX6_event.at 10 rfl) ?_
      refine a_lconst (kX6_event.at 11 rfl) 0 rfl rfl ?_
      refine a_ldc2 (kX6_event.at 12 rfl) cl_X6_134 (7) rfl ⟨by decide, by decide⟩ ?_
      refine AW.callS (as := [vL c, vL 0, vL 7]) (st := []) (kX6_event.at 13 rfl) ml_X6_70 ss_X6_in ⟨Nat.le_of_ble_eq_true rfl, Nat.le_of_ble_eq_true rfl⟩ ⟨Nat.le_refl _, Nat.le_refl _⟩ rfl rfl (Nat.le_of_ble_eq_true rfl) (c_in G M c 0 7) (kIE ?_)
      refine a_ifneB (tgt := 34) (kX6_event.at 14 rfl) (by decide) (fun h28 => ?_) (fun h28 => ?_)
      · refine a_aload_n (kX6_event.at 17 rfl) 0 rfl ?_
        refine a_getI (x := M 44 9) (kX6_event.at 18 rfl) fg_X6_128 ii_44_9 (rfl) ?_
        refine a_bipush (kX6_event.at 19 rfl) rfl rfl ?_
        refine a_icmpne (tgt := 46) (kX6_event.at 20 rfl) (by decide) (fun h40 => ?_) (fun h40 => ?_)
        · refine a_aload_n (kX6_event.at 23 rfl) 0 rfl ?_
          refine a_iload_n (kX6_event.at 24 rfl) 1 rfl ?_
          refine a_iload_n (kX6_event.at 25 rfl) 2 rfl ?_
          refine a_iload_n (kX6_event.at 26 rfl) 3 rfl ?_
          refine AW.callV (as := [vI a, vI b, vI c]) (st := []) (kX6_event.at 27 rfl) ml_X6_136 sv_X6_keeps (k := 44) (io_44) rfl rfl ⟨Nat.le_of_ble_eq_true rfl, Nat.le_of_ble_eq_true rfl⟩ ⟨Nat.le_refl _, Nat.le_refl _⟩ rfl rfl (Nat.le_of_ble_eq_true rfl) (c_keeps G M a b c (by omega)) (kVE ?_)
          refine a_aload_n (kX6_event.at 28 rfl) 0 rfl ?_
          refine a_getI (x := (keeps M a b c) 44 9) (kX6_event.at 29 rfl) fg_X6_128 ii_44_9 (rfl) ?_
          exact a_iretE (kX6_event.at 30 rfl) (by first | (exfalso; omega) | (unfold o_event; (repeat' split) <;> first | (exfalso; omega) | exact ⟨rfl, rfl⟩))
        · refine a_bipush (kX6_event.at 21 rfl) rfl rfl ?_
          exact a_iretE (kX6_event.at 22 rfl) (by first | (exfalso; omega) | (unfold o_event; (repeat' split) <;> first | (exfalso; omega) | exact ⟨rfl, rfl⟩))
      · refine a_bipush (kX6_event.at 15 rfl) rfl rfl ?_
        exact a_iretE (kX6_event.at 16 rfl) (by first | (exfalso; omega) | (unfold o_event; (repeat' split) <;> first | (exfalso; omega) | exact ⟨rfl, rfl⟩))
noncomputable def o_back (M : Mem) : Int × Mem := if M 44 9 = 0 then (-3, M) else (M 44 9 - 1, upm M 44 9 (M 44 9 - 1))
theorem c_back (G : GT) (M : Mem) (he : 0 ≤ M 44 9 ∧ M 44 9 ≤ 8) : AM G yX6_back cX6_back 1 (some .int) 0 M [vR 44] (qI (o_back M).1 (o_back M).2) := by
  refine AM.mk (own := RX6) rfl sv_X6_back.1.2.2.2.2.2 (Nat.le_of_ble_eq_true rfl) rfl ?_
  refine a_aload_n (kX6_back.at 0 rfl) 0 rfl ?_
  refine a_getI (x := M 44 9) (kX6_back.at 1 rfl) fg_X6_128 ii_44_9 (rfl) ?_
  refine a_ifne (tgt := 10) (kX6_back.at 2 rfl) (by decide) (fun h4 => ?_) (fun h4 => ?_)
  · refine a_aload_n (kX6_back.at 5 rfl) 0 rfl ?_
    refine a_dup (kX6_back.at 6 rfl) rfl ?_
    refine a_getI (x := M 44 9) (kX6_back.at 7 rfl) fg_X6_128 ii_44_9 (rfl) ?_
    refine a_iconst (kX6_back.at 8 rfl) rfl ?_
    refine a_isub (kX6_back.at 9 rfl) (inr (by omega)) ?_
    refine a_putI (j := 9) (kX6_back.at 10 rfl) fp_X6_128 (ii_44_9) rfl ?_
    refine a_aload_n (kX6_back.at 11 rfl) 0 rfl ?_
    refine a_getI (x := (M 44 9) - 1) (kX6_back.at 12 rfl) fg_X6_128 ii_44_9 (rd_eq) ?_
    exact a_iretE (kX6_back.at 13 rfl) (by first | (exfalso; omega) | (unfold o_back; (repeat' split) <;> first | (exfalso; omega) | exact ⟨rfl, rfl⟩))
  · refine a_bipush (kX6_back.at 3 rfl) rfl rfl ?_
    exact a_iretE (kX6_back.at 4 rfl) (by first | (exfalso; omega) | (unfold o_back; (repeat' split) <;> first | (exfalso; omega) | exact ⟨rfl, rfl⟩))
noncomputable def o_seen (M : Mem) (q k h : Int) : Int × Mem := if (0 ≤ q ∧ q ≤ 15) ∧ (0 ≤ k ∧ k ≤ 7) ∧ (0 ≤ h ∧ h ≤ 9) then (if M 44 28 = 8 then (-4, M) else (M 44 28 + 1, upm (upm (upm (upm M 60 (3 * M 44 28) q) 60 (3 * M 44 28 + 1) k) 60 (3 * M 44 28 + 2) h) 44 28 (M 44 28 + 1))) else (-2, M)
theorem c_seen (G : GT) (M : Mem) (q k h : Int) (hs : 0 ≤ M 44 28 ∧ M 44 28 ≤ 8) : AM G yX6_seen cX6_seen 4 (some .int) 2 M [vR 44, vI q, vI k, vI h] (qI (o_seen M q k h).1 (o_seen M q k h).2) := by
  refine AM.mk (own := RX6) rfl sv_X6_seen.1.2.2.2.2.2 (Nat.le_of_ble_eq_true rfl) rfl ?_
  refine a_iload_n (kX6_seen.at 0 rfl) 1 rfl ?_
  refine AW.callS (as := [vI q]) (st := []) (kX6_seen.at 1 rfl) ml_X6_131 ss_X6_isQuarter ⟨Nat.le_of_ble_eq_true rfl, Nat.le_of_ble_eq_true rfl⟩ ⟨Nat.le_refl _, Nat.le_refl _⟩ rfl rfl (Nat.le_of_ble_eq_true rfl) (c_isQuarter G M q) (kIE ?_)
  refine a_ifeqB (tgt := 26) (kX6_seen.at 2 rfl) (by decide) (fun h4 => ?_) (fun h4 => ?_)
  · refine a_bipush (kX6_seen.at 12 rfl) rfl rfl ?_
    exact a_iretE (kX6_seen.at 13 rfl) (by first | (exfalso; omega) | (unfold o_seen; (repeat' split) <;> first | (exfalso; omega) | exact ⟨rfl, rfl⟩))
  · refine a_iload_n (kX6_seen.at 3 rfl) 2 rfl ?_
    refine a_i2l (kX6_seen.at 4 rfl) ?_
    refine a_lconst (kX6_seen.at 5 rfl) 0 rfl rfl ?_
    refine a_ldc2 (kX6_seen.at 6 rfl) cl_X6_134 (7) rfl ⟨by decide, by decide⟩ ?_
    refine AW.callS (as := [vL k, vL 0, vL 7]) (st := []) (kX6_seen.at 7 rfl) ml_X6_70 ss_X6_in ⟨Nat.le_of_ble_eq_true rfl, Nat.le_of_ble_eq_true rfl⟩ ⟨Nat.le_refl _, Nat.le_refl _⟩ rfl rfl (Nat.le_of_ble_eq_true rfl) (c_in G M k 0 7) (kIE ?_)
    refine a_ifeqB (tgt := 26) (kX6_seen.at 8 rfl) (by decide) (fun h16 => ?_) (fun h16 => ?_)
    · refine a_bipush (kX6_seen.at 12 rfl) rfl rfl ?_
      exact a_iretE (kX6_seen.at 13 rfl) (by first | (exfalso; omega) | (unfold o_seen; (repeat' split) <;> first | (exfalso; omega) | exact ⟨rfl, rfl⟩))
    · refine a_iload_n (kX6_seen.at 9 rfl) 3 rfl ?_
      refine AW.callS (as := [vI h]) (st := []) (kX6_seen.at 10 rfl) ml_X6_209 ss_X6_isHouse ⟨Nat.le_of_ble_eq_true rfl, Nat.le_of_ble_eq_true rfl⟩ ⟨Nat.le_refl _, Nat.le_refl _⟩ rfl rfl (Nat.le_of_ble_eq_true rfl) (c_isHouse G M h) (kIE ?_)
      refine a_ifneB (tgt := 29) (kX6_seen.at 11 rfl) (by decide) (fun h23 => ?_) (fun h23 => ?_)
      · refine a_aload_n (kX6_seen.at 14 rfl) 0 rfl ?_
        refine a_getI (x := M 44 28) (kX6_seen.at 15 rfl) fg_X6_263 ii_44_28 (rfl) ?_
        refine a_bipush (kX6_seen.at 16 rfl) rfl rfl ?_
        refine a_icmpne (tgt := 41) (kX6_seen.at 17 rfl) (by decide) (fun h35 => ?_) (fun h35 => ?_)
        · refine a_aload_n (kX6_seen.at 20 rfl) 0 rfl ?_
          refine a_getR (kX6_seen.at 21 rfl) fg_X6_55 ir_44_29 ?_
          refine a_iconst (kX6_seen.at 22 rfl) rfl ?_
          refine a_aload_n (kX6_seen.at 23 rfl) 0 rfl ?_
          refine a_getI (x := M 44 28) (kX6_seen.at 24 rfl) fg_X6_263 ii_44_28 (rfl) ?_
          refine a_imul (kX6_seen.at 25 rfl) (inr (by omega)) ?_
          refine a_iload_n (kX6_seen.at 26 rfl) 1 rfl ?_
          refine a_iast (kX6_seen.at 27 rfl) (ia_60) (by omega) ?_
          refine a_aload_n (kX6_seen.at 28 rfl) 0 rfl ?_
          refine a_getR (kX6_seen.at 29 rfl) fg_X6_55 ir_44_29 ?_
          refine a_iconst (kX6_seen.at 30 rfl) rfl ?_
          refine a_aload_n (kX6_seen.at 31 rfl) 0 rfl ?_
          refine a_getI (x := M 44 28) (kX6_seen.at 32 rfl) fg_X6_263 ii_44_28 (rd_ne (by decide)) ?_
          refine a_imul (kX6_seen.at 33 rfl) (inr (by omega)) ?_
          refine a_iconst (kX6_seen.at 34 rfl) rfl ?_
          refine a_iadd (kX6_seen.at 35 rfl) (inr (by omega)) ?_
          refine a_iload_n (kX6_seen.at 36 rfl) 2 rfl ?_
          refine a_iast (kX6_seen.at 37 rfl) (ia_60) (by omega) ?_
          refine a_aload_n (kX6_seen.at 38 rfl) 0 rfl ?_
          refine a_getR (kX6_seen.at 39 rfl) fg_X6_55 ir_44_29 ?_
          refine a_iconst (kX6_seen.at 40 rfl) rfl ?_
          refine a_aload_n (kX6_seen.at 41 rfl) 0 rfl ?_
          refine a_getI (x := M 44 28) (kX6_seen.at 42 rfl) fg_X6_263 ii_44_28 ((rd_ne (by decide)).trans (rd_ne (by decide))) ?_
          refine a_imul (kX6_seen.at 43 rfl) (inr (by omega)) ?_
          refine a_iconst (kX6_seen.at 44 rfl) rfl ?_
          refine a_iadd (kX6_seen.at 45 rfl) (inr (by omega)) ?_
          refine a_iload_n (kX6_seen.at 46 rfl) 3 rfl ?_
          refine a_iast (kX6_seen.at 47 rfl) (ia_60) (by omega) ?_
          refine a_aload_n (kX6_seen.at 48 rfl) 0 rfl ?_
          refine a_dup (kX6_seen.at 49 rfl) rfl ?_
          refine a_getI (x := M 44 28) (kX6_seen.at 50 rfl) fg_X6_263 ii_44_28 ((rd_ne (by decide)).trans ((rd_ne (by decide)).trans (rd_ne (by decide)))) ?_
          refine a_iconst (kX6_seen.at 51 rfl) rfl ?_
          refine a_iadd (kX6_seen.at 52 rfl) (inr (by omega)) ?_
          refine a_putI (j := 28) (kX6_seen.at 53 rfl) fp_X6_263 (ii_44_28) rfl ?_
          refine a_aload_n (kX6_seen.at 54 rfl) 0 rfl ?_
          refine a_getI (x := (M 44 28) + 1) (kX6_seen.at 55 rfl) fg_X6_263 ii_44_28 (rd_eq) ?_
          exact a_iretE (kX6_seen.at 56 rfl) (by first | (exfalso; omega) | (unfold o_seen; (repeat' split) <;> first | (exfalso; omega) | exact ⟨rfl, rfl⟩))
        · refine a_bipush (kX6_seen.at 18 rfl) rfl rfl ?_
          exact a_iretE (kX6_seen.at 19 rfl) (by first | (exfalso; omega) | (unfold o_seen; (repeat' split) <;> first | (exfalso; omega) | exact ⟨rfl, rfl⟩))
      · refine a_bipush (kX6_seen.at 12 rfl) rfl rfl ?_
        exact a_iretE (kX6_seen.at 13 rfl) (by first | (exfalso; omega) | (unfold o_seen; (repeat' split) <;> first | (exfalso; omega) | exact ⟨rfl, rfl⟩))
theorem c_forget (G : GT) (M : Mem) : AM G yX6_forget cX6_forget 2 (some .int) 0 M [vR 44] (qI (M 44 28) (upm M 44 28 0)) := by
  refine AM.mk (own := RX6) rfl sv_X6_forget.1.2.2.2.2.2 (Nat.le_of_ble_eq_true rfl) rfl ?_
  refine a_aload_n (kX6_forget.at 0 rfl) 0 rfl ?_
  refine a_getI (x := M 44 28) (kX6_forget.at 1 rfl) fg_X6_263 ii_44_28 (rfl) ?_
  refine a_istore_n (ls' := [(0, vR 44), (1, vI (M 44 28))]) (kX6_forget.at 2 rfl) (by decide) rfl ?_
  refine a_aload_n (kX6_forget.at 3 rfl) 0 rfl ?_
  refine a_iconst (kX6_forget.at 4 rfl) rfl ?_
  refine a_putI (j := 28) (kX6_forget.at 5 rfl) fp_X6_263 (ii_44_28) rfl ?_
  refine a_iload_n (kX6_forget.at 6 rfl) 1 rfl ?_
  exact a_iretE (kX6_forget.at 7 rfl) (⟨rfl, rfl⟩)
/-- events out of a sheet, from the n-th on -/
noncomputable def rdE (s sz : Int) : Nat → Int → Mem → Int × Mem
  | 0, n, N => (n, N)
  | f + 1, n, N => if 3 * n + 3 ≤ sz then (if (o_event N (N 47 (60 * s + 3 * n)) (N 47 (60 * s + 3 * n + 1)) (N 47 (60 * s + 3 * n + 2))).1 < 0 then (n, N) else rdE s sz f (n + 1) (o_event N (N 47 (60 * s + 3 * n)) (N 47 (60 * s + 3 * n + 1)) (N 47 (60 * s + 3 * n + 2))).2) else (n, N)
noncomputable def o_read (M : Mem) (s : Int) : Int × Mem := if 0 ≤ s ∧ s ≤ 3 then (if M 45 s < 0 then (-11, upm M 44 4 1) else rdE s (M 46 s) 21 0 M) else (-2, M)
theorem o_event_neg {N : Mem} {a b c : Int} (he : 0 ≤ N 44 9) (h : (o_event N a b c).1 < 0) : (o_event N a b c).2 = N := by
  unfold o_event at h ⊢
  split at h
  · rename_i h1
    rw [if_pos h1]
    split at h
    · rename_i h2
      rw [if_pos h2]
    · rename_i h2
      simp only at h
      omega
  · rename_i h1
    rw [if_neg h1]
theorem o_event_ok {N : Mem} {a b c : Int} (he : 0 ≤ N 44 9 ∧ N 44 9 ≤ 8) (h : ¬ (o_event N a b c).1 < 0) : (o_event N a b c).2 = keeps N a b c ∧ N 44 9 ≤ 7 ∧ (0 ≤ a ∧ a ≤ 3) ∧ (0 ≤ b ∧ b ≤ 15) ∧ (0 ≤ c ∧ c ≤ 7) := by
  unfold o_event at h ⊢
  split at h
  · rename_i h1
    rw [if_pos h1]
    split at h
    · simp at h
    · rename_i h2
      rw [if_neg h2]
      exact ⟨rfl, by omega, h1⟩
  · simp at h
set_option maxHeartbeats 4000000 in
set_option maxRecDepth 100000 in
theorem l_read (G : GT) (s sz r : Int) (R : Mem) (hs : 0 ≤ s ∧ s ≤ 3) (hz : 0 ≤ sz ∧ sz ≤ 60) : ∀ (f : Nat) (n : Int) (N : Mem), 0 ≤ n → n ≤ 20 → 20 < n + f → (0 ≤ N 44 9 ∧ N 44 9 ≤ 8) → N 46 s = sz → rdE s sz f n N = (r, R) → AW G RX6 cX6_read 5 (some .int) (XM G 3 (qI r R)) 29 [(0, vR 44), (1, vI s), (2, vI n), (3, vI 1)] [] N := by
  intro f
  induction f with
  | zero => intro n N h0 h1 h2; omega
  | succ f ih =>
    intro n N h0 h1 h2 he hN e
    unfold rdE at e
    have hneg := @o_event_neg N (N 47 (60 * s + 3 * n)) (N 47 (60 * s + 3 * n + 1)) (N 47 (60 * s + 3 * n + 2)) he.1
    have hpos := @o_event_ok N (N 47 (60 * s + 3 * n)) (N 47 (60 * s + 3 * n + 1)) (N 47 (60 * s + 3 * n + 2)) he
    have J : (n, N) = (r, R) → AW G RX6 cX6_read 5 (some .int) (XM G 3 (qI r R)) 29 [(0, vR 44), (1, vI s), (2, vI n), (3, vI 0)] [] N := by
      intro e
      refine a_iload_n (kX6_read.at 18 rfl) 3 rfl ?_
      refine a_ifeq (tgt := 110) (kX6_read.at 19 rfl) (by decide) (fun h30 => ?_) (fun h30 => absurd h30 (by decide))
      refine a_iload_n (kX6_read.at 70 rfl) 2 rfl ?_
      exact a_iretE (kX6_read.at 71 rfl) (⟨congrArg Prod.fst e, congrArg Prod.snd e⟩)
    refine a_iload_n (kX6_read.at 18 rfl) 3 rfl ?_
    refine a_ifeq (tgt := 110) (kX6_read.at 19 rfl) (by decide) (fun h30 => absurd h30 (by decide)) (fun h30 => ?_)
    refine a_iconst (kX6_read.at 20 rfl) rfl ?_
    refine a_iload_n (kX6_read.at 21 rfl) 2 rfl ?_
    refine a_imul (kX6_read.at 22 rfl) (inr (by omega)) ?_
    refine a_iconst (kX6_read.at 23 rfl) rfl ?_
    refine a_iadd (kX6_read.at 24 rfl) (inr (by omega)) ?_
    refine a_aload_n (kX6_read.at 25 rfl) 0 rfl ?_
    refine a_getR (kX6_read.at 26 rfl) fg_X6_13 ir_44_1 ?_
    refine a_iload_n (kX6_read.at 27 rfl) 1 rfl ?_
    refine a_iald (x := N 46 s) (kX6_read.at 28 rfl) (ia_46) (by omega) (rfl) ?_
    refine a_icmpgt (tgt := 110) (kX6_read.at 29 rfl) (by decide) (fun h44 => ?_) (fun h44 => ?_)
    · refine a_iload_n (kX6_read.at 70 rfl) 2 rfl ?_
      exact a_iretE (kX6_read.at 71 rfl) (by rw [if_neg (show ¬ 3 * n + 3 ≤ sz by omega)] at e; exact ⟨congrArg Prod.fst e, congrArg Prod.snd e⟩)
    · refine a_bipush (kX6_read.at 30 rfl) rfl rfl ?_
      refine a_iload_n (kX6_read.at 31 rfl) 1 rfl ?_
      refine a_imul (kX6_read.at 32 rfl) (inr (by omega)) ?_
      refine a_iconst (kX6_read.at 33 rfl) rfl ?_
      refine a_iload_n (kX6_read.at 34 rfl) 2 rfl ?_
      refine a_imul (kX6_read.at 35 rfl) (inr (by omega)) ?_
      refine a_iadd (kX6_read.at 36 rfl) (inr (by omega)) ?_
      refine a_istore (ls' := [(0, vR 44), (1, vI s), (2, vI n), (3, vI 1), (4, vI ((60 * s) + (3 * n)))]) (kX6_read.at 37 rfl) (by decide) rfl ?_
      refine a_aload_n (kX6_read.at 38 rfl) 0 rfl ?_
      refine a_aload_n (kX6_read.at 39 rfl) 0 rfl ?_
      refine a_getR (kX6_read.at 40 rfl) fg_X6_16 ir_44_2 ?_
      refine a_iload (kX6_read.at 41 rfl) 4 rfl ?_
      refine a_iald (x := N 47 ((60 * s) + (3 * n))) (kX6_read.at 42 rfl) (ia_47) (by omega) (rfl) ?_
      refine a_aload_n (kX6_read.at 43 rfl) 0 rfl ?_
      refine a_getR (kX6_read.at 44 rfl) fg_X6_16 ir_44_2 ?_
      refine a_iload (kX6_read.at 45 rfl) 4 rfl ?_
      refine a_iconst (kX6_read.at 46 rfl) rfl ?_
      refine a_iadd (kX6_read.at 47 rfl) (inr (by omega)) ?_
      refine a_iald (x := N 47 (((60 * s) + (3 * n)) + 1)) (kX6_read.at 48 rfl) (ia_47) (by omega) (rfl) ?_
      refine a_aload_n (kX6_read.at 49 rfl) 0 rfl ?_
      refine a_getR (kX6_read.at 50 rfl) fg_X6_16 ir_44_2 ?_
      refine a_iload (kX6_read.at 51 rfl) 4 rfl ?_
      refine a_iconst (kX6_read.at 52 rfl) rfl ?_
      refine a_iadd (kX6_read.at 53 rfl) (inr (by omega)) ?_
      refine a_iald (x := N 47 (((60 * s) + (3 * n)) + 2)) (kX6_read.at 54 rfl) (ia_47) (by omega) (rfl) ?_
      refine AW.callV (as := [vI (N 47 ((60 * s) + (3 * n))), vI (N 47 (((60 * s) + (3 * n)) + 1)), vI (N 47 (((60 * s) + (3 * n)) + 2))]) (st := []) (kX6_read.at 55 rfl) ml_X6_140 sv_X6_event (k := 44) (io_44) rfl rfl ⟨Nat.le_of_ble_eq_true rfl, Nat.le_of_ble_eq_true rfl⟩ ⟨Nat.le_refl _, Nat.le_refl _⟩ rfl rfl (Nat.le_of_ble_eq_true rfl) (c_event G N (N 47 ((60 * s) + (3 * n))) (N 47 (((60 * s) + (3 * n)) + 1)) (N 47 (((60 * s) + (3 * n)) + 2)) (by omega)) (kIE ?_)
      refine a_iflt (tgt := 93) (kX6_read.at 56 rfl) (by decide) (fun h86 => ?_) (fun h86 => ?_)
      · refine a_iconst (kX6_read.at 59 rfl) rfl ?_
        try rw [if_pos (show 3 * n + 3 ≤ sz by omega), if_pos h86] at e
        try rw [if_pos (show 3 * n + 3 ≤ sz by omega), if_neg h86] at e
        refine a_istore_n (ls' := [(0, vR 44), (1, vI s), (2, vI n), (3, vI 0), (4, vI ((60 * s) + (3 * n)))]) (kX6_read.at 60 rfl) (by decide) rfl ?_
        refine a_iload_n (kX6_read.at 61 rfl) 2 rfl ?_
        refine a_iload_n (kX6_read.at 62 rfl) 3 rfl ?_
        refine a_ifeq (tgt := 104) (kX6_read.at 63 rfl) (by decide) (fun h97 => ?_) (fun h97 => absurd h97 (by decide))
        refine a_iconst (kX6_read.at 66 rfl) rfl ?_
        refine a_iadd (kX6_read.at 67 rfl) (inr (by omega)) ?_
        refine a_istore_n (ls' := [(0, vR 44), (1, vI s), (2, vI (n + 0)), (3, vI 0), (4, vI ((60 * s) + (3 * n)))]) (kX6_read.at 68 rfl) (by decide) rfl ?_
        refine a_goto (tgt := 29) (kX6_read.at 69 rfl) (by decide) ?_
        refine AW.loc (ls' := [(0, vR 44), (1, vI s), (2, vI (n + 0)), (3, vI 0)]) [0, 1, 2, 3] rfl ?_
        first | (rw [hneg h86, show n + 0 = n by omega]; exact J e) | (have hp := hpos h86; exact ih (n + 1) _ (by omega) (by omega) (by omega) (by rw [hp.1]; show 0 ≤ N 44 9 + 1 ∧ N 44 9 + 1 ≤ 8; omega) (by rw [hp.1]; exact hN) e)
      · refine a_iconst (kX6_read.at 57 rfl) rfl ?_
        refine a_goto (tgt := 94) (kX6_read.at 58 rfl) (by decide) ?_
        try rw [if_pos (show 3 * n + 3 ≤ sz by omega), if_pos h86] at e
        try rw [if_pos (show 3 * n + 3 ≤ sz by omega), if_neg h86] at e
        refine a_istore_n (ls' := [(0, vR 44), (1, vI s), (2, vI n), (3, vI 1), (4, vI ((60 * s) + (3 * n)))]) (kX6_read.at 60 rfl) (by decide) rfl ?_
        refine a_iload_n (kX6_read.at 61 rfl) 2 rfl ?_
        refine a_iload_n (kX6_read.at 62 rfl) 3 rfl ?_
        refine a_ifeq (tgt := 104) (kX6_read.at 63 rfl) (by decide) (fun h97 => absurd h97 (by decide)) (fun h97 => ?_)
        refine a_iconst (kX6_read.at 64 rfl) rfl ?_
        refine a_goto (tgt := 105) (kX6_read.at 65 rfl) (by decide) ?_
        refine a_iadd (kX6_read.at 67 rfl) (inr (by omega)) ?_
        refine a_istore_n (ls' := [(0, vR 44), (1, vI s), (2, vI (n + 1)), (3, vI 1), (4, vI ((60 * s) + (3 * n)))]) (kX6_read.at 68 rfl) (by decide) rfl ?_
        refine a_goto (tgt := 29) (kX6_read.at 69 rfl) (by decide) ?_
        refine AW.loc (ls' := [(0, vR 44), (1, vI s), (2, vI (n + 1)), (3, vI 1)]) [0, 1, 2, 3] rfl ?_
        first | (rw [hneg h86, show n + 0 = n by omega]; exact J e) | (have hp := hpos h86; exact ih (n + 1) _ (by omega) (by omega) (by omega) (by rw [hp.1]; show 0 ≤ N 44 9 + 1 ∧ N 44 9 + 1 ≤ 8; omega) (by rw [hp.1]; exact hN) e)
theorem c_read (G : GT) (M : Mem) (s : Int) (hI : SI M) (he : 0 ≤ M 44 9 ∧ M 44 9 ≤ 8) : AM G yX6_read cX6_read 5 (some .int) 3 M [vR 44, vI s] (qI (o_read M s).1 (o_read M s).2) := by
  refine AM.mk (own := RX6) rfl sv_X6_read.1.2.2.2.2.2 (Nat.le_of_ble_eq_true rfl) rfl ?_
  refine a_iload_n (kX6_read.at 0 rfl) 1 rfl ?_
  refine AW.callS (as := [vI s]) (st := []) (kX6_read.at 1 rfl) ml_X6_79 ss_X6_isSheet ⟨Nat.le_of_ble_eq_true rfl, Nat.le_of_ble_eq_true rfl⟩ ⟨Nat.le_refl _, Nat.le_refl _⟩ rfl rfl (Nat.le_of_ble_eq_true rfl) (c_isSheet G M s) (kIE ?_)
  refine a_ifneB (tgt := 10) (kX6_read.at 2 rfl) (by decide) (fun h4 => ?_) (fun h4 => ?_)
  · refine a_aload_n (kX6_read.at 5 rfl) 0 rfl ?_
    refine a_getR (kX6_read.at 6 rfl) fg_X6_7 ir_44_0 ?_
    refine a_iload_n (kX6_read.at 7 rfl) 1 rfl ?_
    refine a_iald (x := M 45 s) (kX6_read.at 8 rfl) (ia_45) (by omega) (rfl) ?_
    refine a_ifge (tgt := 25) (kX6_read.at 9 rfl) (by decide) (fun h16 => ?_) (fun h16 => ?_)
    · refine a_iconst (kX6_read.at 14 rfl) rfl ?_
      refine a_istore_n (ls' := [(0, vR 44), (1, vI s), (2, vI 0)]) (kX6_read.at 15 rfl) (by decide) rfl ?_
      refine a_iconst (kX6_read.at 16 rfl) rfl ?_
      refine a_istore_n (ls' := [(0, vR 44), (1, vI s), (2, vI 0), (3, vI 1)]) (kX6_read.at 17 rfl) (by decide) rfl ?_
      have hI2 := hI s (by omega) (by omega)
      have e : o_read M s = rdE s (M 46 s) 21 0 M := by unfold o_read; rw [if_pos (by omega), if_neg (by omega)]
      rw [e]
      exact l_read G s (M 46 s) _ _ (by omega) (by omega) 21 0 M (by omega) (by omega) (by omega) he rfl rfl
    · refine a_aload_n (kX6_read.at 10 rfl) 0 rfl ?_
      refine a_iconst (kX6_read.at 11 rfl) rfl ?_
      refine AW.callV (as := [vI 1]) (st := []) (kX6_read.at 12 rfl) ml_X6_85 sv_X6_finds (k := 44) (io_44) rfl rfl ⟨Nat.le_of_ble_eq_true rfl, Nat.le_of_ble_eq_true rfl⟩ ⟨Nat.le_refl _, Nat.le_refl _⟩ rfl rfl (Nat.le_of_ble_eq_true rfl) (c_finds G M 1 (by omega)) (kIE ?_)
      exact a_iretE (kX6_read.at 13 rfl) (by first | (exfalso; omega) | (unfold o_read; (repeat' split) <;> first | (exfalso; omega) | exact ⟨rfl, rfl⟩))
  · refine a_bipush (kX6_read.at 3 rfl) rfl rfl ?_
    exact a_iretE (kX6_read.at 4 rfl) (by first | (exfalso; omega) | (unfold o_read; (repeat' split) <;> first | (exfalso; omega) | exact ⟨rfl, rfl⟩))
