/-! ===== the class: parse, the loop ===== -/
set_option maxHeartbeats 4000000 in
set_option maxRecDepth 100000 in
theorem l_parse (G : GT) (M K : Mem) (hl : K 44 6 = M 1 4) (ht : 0 ≤ M 1 4 ∧ M 1 4 ≤ 31) (hb : ∀ i, 0 ≤ i → i < M 1 4 → M 14 i = K 49 i) : ∀ (n : Nat) (i : Int) (N Kr : Mem) (tk : Int), 0 ≤ i → i ≤ M 1 4 → rdA K i = (Kr, -1) → PI N Kr i tk → N 1 6 = -1 → FX M N → M 1 4 - i < n → AW G RX3 cX3_parse 6 none (XM G 2 (pV fun N' => TX N' K ∧ FX M N')) 9 [(0, vR 1), (1, vI tk), (2, vI i)] [] N := by
  intro n
  induction n with
  | zero => intro i N Kr tk h0 h1 e hP hN hF hn; omega
  | succ n ih =>
    intro i N Kr tk h0 h1 e hP hN hF hn
    have e4 : N 1 4 = M 1 4 := hF 1 4 (by omega) (by omega) (by omega) (by omega)
    have e14 : N 14 i = M 14 i := hF 14 i (by omega) (by omega) (by omega) (by omega)
    have hp := (rdA_people K h0 (by rw [e])).1
    have e49 := Ft_rdA K h0 49 i (by decide) (by omega)
    rw [e] at hp e49
    simp only at hp e49
    have hv := vAt_r (k := i % 4) (b := N 14 i)
    have htk := hP.2.2.2.1
    refine a_iload_n (kX3_parse.at 7 rfl) 2 rfl ?_
    refine a_aload_n (kX3_parse.at 8 rfl) 0 rfl ?_
    refine a_getI (x := N 1 4) (kX3_parse.at 9 rfl) fg_X3_28 ii_1_4 (rfl) ?_
    refine a_icmpge (tgt := 145) (kX3_parse.at 10 rfl) (by decide) (fun h14 => ?_) (fun h14 => ?_)
    · first
        | (exfalso; omega)
        | (obtain rfl : i = M 1 4 := by omega
           exact a_parse145 G M K N Kr tk hl ht e hP hN hF)
    · refine a_aload_n (kX3_parse.at 11 rfl) 0 rfl ?_
      refine a_getI (x := N 1 6) (kX3_parse.at 12 rfl) fg_X3_24 ii_1_6 (rfl) ?_
      refine a_iconst (kX3_parse.at 13 rfl) rfl ?_
      refine a_icmpne (tgt := 145) (kX3_parse.at 14 rfl) (by decide) (fun h22 => ?_) (fun h22 => ?_)
      · first
          | (exfalso; omega)
          | (obtain rfl : i = M 1 4 := by omega
             exact a_parse145 G M K N Kr tk hl ht e hP hN hF)
      · have eb : Kr 49 i = N 14 i := by rw [e49, e14, hb i h0 (by omega)]
        have bv := by_v (b := N 14 i) hP (by omega) hp
        rw [← eb] at bv
        refine a_iload_n (kX3_parse.at 15 rfl) 2 rfl ?_
        refine a_iconst (kX3_parse.at 16 rfl) rfl ?_
        refine a_idiv (kX3_parse.at 17 rfl) (by omega) (by omega) ?_
        refine a_istore_n (ls' := [(0, vR 1), (1, vI tk), (2, vI i), (3, vI (i / 4))]) (kX3_parse.at 18 rfl) (by decide) rfl ?_
        refine a_aload_n (kX3_parse.at 19 rfl) 0 rfl ?_
        refine a_iload_n (kX3_parse.at 20 rfl) 2 rfl ?_
        refine AW.callV (as := [vI i]) (st := []) (kX3_parse.at 21 rfl) ml_X3_31 sv_X3_valueAt (k := 1) (io_1) rfl rfl ⟨Nat.le_of_ble_eq_true rfl, Nat.le_of_ble_eq_true rfl⟩ ⟨Nat.le_refl _, Nat.le_refl _⟩ rfl rfl (Nat.le_of_ble_eq_true rfl) (k_valueAt G N i (by omega)) (kIE ?_)
        refine a_istore (ls' := [(0, vR 1), (1, vI tk), (2, vI i), (3, vI (i / 4)), (4, vI (vAt (i % 4) (N 14 i)))]) (kX3_parse.at 22 rfl) (by decide) rfl ?_
        refine a_iload_n (kX3_parse.at 23 rfl) 2 rfl ?_
        refine a_iconst (kX3_parse.at 24 rfl) rfl ?_
        refine a_irem (kX3_parse.at 25 rfl) (by omega) (by omega) ?_
        refine a_iconst (kX3_parse.at 26 rfl) rfl ?_
        refine a_icmpne (tgt := 47) (kX3_parse.at 27 rfl) (by decide) (fun h40 => ?_) (fun h40 => ?_)
        · refine a_iconst (kX3_parse.at 30 rfl) rfl ?_
          refine a_istore (ls' := [(0, vR 1), (1, vI tk), (2, vI i), (3, vI (i / 4)), (4, vI (vAt (i % 4) (N 14 i))), (5, vI 0)]) (kX3_parse.at 31 rfl) (by decide) rfl ?_
          refine a_iload_n (kX3_parse.at 32 rfl) 3 rfl ?_
          refine a_bipush (kX3_parse.at 33 rfl) rfl rfl ?_
          refine a_icmpge (tgt := 76) (kX3_parse.at 34 rfl) (by decide) (fun h53 => ?_) (fun h53 => ?_)
          · have bad : byteOf Kr (i % 4) (Kr 49 i) = -9 := by first | (exfalso; omega) | exact bv.1 (Or.inl (by rw [eb]; exact h59)) | exact bv.1 (Or.inr ⟨h40, by rw [eb]; exact h73⟩)
            refine a_aload_n (kX3_parse.at 44 rfl) 0 rfl ?_
            refine a_iload_n (kX3_parse.at 45 rfl) 2 rfl ?_
            refine a_putI (j := 6) (kX3_parse.at 46 rfl) fp_X3_24 (ii_1_6) rfl ?_
            refine a_goto (tgt := 139) (kX3_parse.at 47 rfl) (by decide) ?_
            refine a_iinc (ls' := [(0, vR 1), (1, vI tk), (2, vI (i + 1)), (3, vI (i / 4)), (4, vI (vAt (i % 4) (N 14 i))), (5, vI 0)]) (kX3_parse.at 82 rfl) 2 rfl (by decide) (inr (by omega)) rfl ?_
            refine a_goto (tgt := 9) (kX3_parse.at 83 rfl) (by decide) ?_
            refine AW.loc (ls' := [(0, vR 1), (1, vI tk), (2, vI (i + 1))]) [0, 1, 2] rfl ?_
            first
              | (have z := bad
                 exact fault9 G M K _ _ i tk (rd_bad h0 (by omega) hl e bad) rd_eq (by omega) rd_eq (hF.up (by omega)))
              | exact ih (i + 1) _ (rdT Kr i (vAt (i % 4) (N 14 i))) _ (by omega) (by omega) nx (PI_step hP (by omega) (by omega) (fun p => by first | rw [rd_ne (by decide), if_neg (by omega)] | rw [if_neg (by omega)] | (rw [upm_same]; unfold ups; by_cases ep : p = i / 4; (rw [if_pos ep, if_pos (by omega)]); (rw [if_neg ep, if_neg (by omega)]))) (fun p => by first | rw [rd_ne (by decide), if_neg (by omega)] | rw [if_neg (by omega)] | (rw [upm_same]; unfold ups; by_cases ep : p = i / 4; (rw [if_pos ep, if_pos (by omega)]); (rw [if_neg ep, if_neg (by omega)]))) (fun p => by first | rw [rd_ne (by decide), if_neg (by omega)] | rw [if_neg (by omega)] | (rw [upm_same]; unfold ups; by_cases ep : p = i / 4; (rw [if_pos ep, if_pos (by omega)]); (rw [if_neg ep, if_neg (by omega)]))) (by first | rw [if_neg (by omega)] | rw [if_pos (by omega)])) (by first | exact hN | (rw [rd_ne (by decide)]; exact hN)) (by first | exact hF | exact hF.up (by omega)) (by omega)
          · refine a_iload (kX3_parse.at 35 rfl) 4 rfl ?_
            refine a_iconst (kX3_parse.at 36 rfl) rfl ?_
            refine a_icmpeq (tgt := 76) (kX3_parse.at 37 rfl) (by decide) (fun h59 => ?_) (fun h59 => ?_)
            · have bad : byteOf Kr (i % 4) (Kr 49 i) = -9 := by first | (exfalso; omega) | exact bv.1 (Or.inl (by rw [eb]; exact h59)) | exact bv.1 (Or.inr ⟨h40, by rw [eb]; exact h73⟩)
              refine a_aload_n (kX3_parse.at 44 rfl) 0 rfl ?_
              refine a_iload_n (kX3_parse.at 45 rfl) 2 rfl ?_
              refine a_putI (j := 6) (kX3_parse.at 46 rfl) fp_X3_24 (ii_1_6) rfl ?_
              refine a_goto (tgt := 139) (kX3_parse.at 47 rfl) (by decide) ?_
              refine a_iinc (ls' := [(0, vR 1), (1, vI tk), (2, vI (i + 1)), (3, vI (i / 4)), (4, vI (vAt (i % 4) (N 14 i))), (5, vI 0)]) (kX3_parse.at 82 rfl) 2 rfl (by decide) (inr (by omega)) rfl ?_
              refine a_goto (tgt := 9) (kX3_parse.at 83 rfl) (by decide) ?_
              refine AW.loc (ls' := [(0, vR 1), (1, vI tk), (2, vI (i + 1))]) [0, 1, 2] rfl ?_
              first
                | (have z := bad
                   exact fault9 G M K _ _ i tk (rd_bad h0 (by omega) hl e bad) rd_eq (by omega) rd_eq (hF.up (by omega)))
                | exact ih (i + 1) _ (rdT Kr i (vAt (i % 4) (N 14 i))) _ (by omega) (by omega) nx (PI_step hP (by omega) (by omega) (fun p => by first | rw [rd_ne (by decide), if_neg (by omega)] | rw [if_neg (by omega)] | (rw [upm_same]; unfold ups; by_cases ep : p = i / 4; (rw [if_pos ep, if_pos (by omega)]); (rw [if_neg ep, if_neg (by omega)]))) (fun p => by first | rw [rd_ne (by decide), if_neg (by omega)] | rw [if_neg (by omega)] | (rw [upm_same]; unfold ups; by_cases ep : p = i / 4; (rw [if_pos ep, if_pos (by omega)]); (rw [if_neg ep, if_neg (by omega)]))) (fun p => by first | rw [rd_ne (by decide), if_neg (by omega)] | rw [if_neg (by omega)] | (rw [upm_same]; unfold ups; by_cases ep : p = i / 4; (rw [if_pos ep, if_pos (by omega)]); (rw [if_neg ep, if_neg (by omega)]))) (by first | rw [if_neg (by omega)] | rw [if_pos (by omega)])) (by first | exact hN | (rw [rd_ne (by decide)]; exact hN)) (by first | exact hF | exact hF.up (by omega)) (by omega)
            · refine a_iload (kX3_parse.at 38 rfl) 5 rfl ?_
              refine a_ifeq (tgt := 84) (kX3_parse.at 39 rfl) (by decide) (fun h64 => ?_) (fun h64 => absurd h64 (by decide))
              have ok : byteOf Kr (i % 4) (Kr 49 i) = vAt (i % 4) (N 14 i) := by first | exact (bv.2 (by rw [eb]; exact h59) (fun z => h40 z.1)).trans (by rw [eb]) | exact (bv.2 (by rw [eb]; exact h59) (fun z => h73 (by rw [← eb]; exact z.2))).trans (by rw [eb])
              have nx : rdA K (i + 1) = (rdT Kr i (vAt (i % 4) (N 14 i)), -1) := by rw [rdA_s K h0, e, rdF_ok (by rw [ok]; omega), ok]
              refine a_iload (kX3_parse.at 48 rfl) 5 rfl ?_
              refine a_ifeq (tgt := 107) (kX3_parse.at 49 rfl) (by decide) (fun h86 => ?_) (fun h86 => absurd h86 (by decide))
              refine a_iload_n (kX3_parse.at 62 rfl) 2 rfl ?_
              refine a_iconst (kX3_parse.at 63 rfl) rfl ?_
              refine a_irem (kX3_parse.at 64 rfl) (by omega) (by omega) ?_
              refine a_ifne (tgt := 124) (kX3_parse.at 65 rfl) (by decide) (fun h110 => ?_) (fun h110 => ?_)
              · refine a_iload_n (kX3_parse.at 72 rfl) 2 rfl ?_
                refine a_iconst (kX3_parse.at 73 rfl) rfl ?_
                refine a_irem (kX3_parse.at 74 rfl) (by omega) (by omega) ?_
                refine a_iconst (kX3_parse.at 75 rfl) rfl ?_
                refine a_icmpne (tgt := 139) (kX3_parse.at 76 rfl) (by decide) (fun h128 => ?_) (fun h128 => ?_)
                · refine a_iinc (ls' := [(0, vR 1), (1, vI tk), (2, vI (i + 1)), (3, vI (i / 4)), (4, vI (vAt (i % 4) (N 14 i))), (5, vI 0)]) (kX3_parse.at 82 rfl) 2 rfl (by decide) (inr (by omega)) rfl ?_
                  refine a_goto (tgt := 9) (kX3_parse.at 83 rfl) (by decide) ?_
                  refine AW.loc (ls' := [(0, vR 1), (1, vI tk), (2, vI (i + 1))]) [0, 1, 2] rfl ?_
                  first
                    | (have z := bad
                       exact fault9 G M K _ _ i tk (rd_bad h0 (by omega) hl e bad) rd_eq (by omega) rd_eq (hF.up (by omega)))
                    | exact ih (i + 1) _ (rdT Kr i (vAt (i % 4) (N 14 i))) _ (by omega) (by omega) nx (PI_step hP (by omega) (by omega) (fun p => by first | rw [rd_ne (by decide), if_neg (by omega)] | rw [if_neg (by omega)] | (rw [upm_same]; unfold ups; by_cases ep : p = i / 4; (rw [if_pos ep, if_pos (by omega)]); (rw [if_neg ep, if_neg (by omega)]))) (fun p => by first | rw [rd_ne (by decide), if_neg (by omega)] | rw [if_neg (by omega)] | (rw [upm_same]; unfold ups; by_cases ep : p = i / 4; (rw [if_pos ep, if_pos (by omega)]); (rw [if_neg ep, if_neg (by omega)]))) (fun p => by first | rw [rd_ne (by decide), if_neg (by omega)] | rw [if_neg (by omega)] | (rw [upm_same]; unfold ups; by_cases ep : p = i / 4; (rw [if_pos ep, if_pos (by omega)]); (rw [if_neg ep, if_neg (by omega)]))) (by first | rw [if_neg (by omega)] | rw [if_pos (by omega)])) (by first | exact hN | (rw [rd_ne (by decide)]; exact hN)) (by first | exact hF | exact hF.up (by omega)) (by omega)
                · refine a_aload_n (kX3_parse.at 77 rfl) 0 rfl ?_
                  refine a_getR (kX3_parse.at 78 rfl) fg_X3_18 ir_1_2 ?_
                  refine a_iload_n (kX3_parse.at 79 rfl) 3 rfl ?_
                  refine a_iload (kX3_parse.at 80 rfl) 4 rfl ?_
                  refine a_iast (kX3_parse.at 81 rfl) (ia_16) (by omega) ?_
                  refine a_iinc (ls' := [(0, vR 1), (1, vI tk), (2, vI (i + 1)), (3, vI (i / 4)), (4, vI (vAt (i % 4) (N 14 i))), (5, vI 0)]) (kX3_parse.at 82 rfl) 2 rfl (by decide) (inr (by omega)) rfl ?_
                  refine a_goto (tgt := 9) (kX3_parse.at 83 rfl) (by decide) ?_
                  refine AW.loc (ls' := [(0, vR 1), (1, vI tk), (2, vI (i + 1))]) [0, 1, 2] rfl ?_
                  first
                    | (have z := bad
                       exact fault9 G M K _ _ i tk (rd_bad h0 (by omega) hl e bad) rd_eq (by omega) rd_eq (hF.up (by omega)))
                    | exact ih (i + 1) _ (rdT Kr i (vAt (i % 4) (N 14 i))) _ (by omega) (by omega) nx (PI_step hP (by omega) (by omega) (fun p => by first | rw [rd_ne (by decide), if_neg (by omega)] | rw [if_neg (by omega)] | (rw [upm_same]; unfold ups; by_cases ep : p = i / 4; (rw [if_pos ep, if_pos (by omega)]); (rw [if_neg ep, if_neg (by omega)]))) (fun p => by first | rw [rd_ne (by decide), if_neg (by omega)] | rw [if_neg (by omega)] | (rw [upm_same]; unfold ups; by_cases ep : p = i / 4; (rw [if_pos ep, if_pos (by omega)]); (rw [if_neg ep, if_neg (by omega)]))) (fun p => by first | rw [rd_ne (by decide), if_neg (by omega)] | rw [if_neg (by omega)] | (rw [upm_same]; unfold ups; by_cases ep : p = i / 4; (rw [if_pos ep, if_pos (by omega)]); (rw [if_neg ep, if_neg (by omega)]))) (by first | rw [if_neg (by omega)] | rw [if_pos (by omega)])) (by first | exact hN | (rw [rd_ne (by decide)]; exact hN)) (by first | exact hF | exact hF.up (by omega)) (by omega)
              · refine a_aload_n (kX3_parse.at 66 rfl) 0 rfl ?_
                refine a_getR (kX3_parse.at 67 rfl) fg_X3_15 ir_1_1 ?_
                refine a_iload_n (kX3_parse.at 68 rfl) 3 rfl ?_
                refine a_iload (kX3_parse.at 69 rfl) 4 rfl ?_
                refine a_iast (kX3_parse.at 70 rfl) (ia_15) (by omega) ?_
                refine a_goto (tgt := 139) (kX3_parse.at 71 rfl) (by decide) ?_
                refine a_iinc (ls' := [(0, vR 1), (1, vI tk), (2, vI (i + 1)), (3, vI (i / 4)), (4, vI (vAt (i % 4) (N 14 i))), (5, vI 0)]) (kX3_parse.at 82 rfl) 2 rfl (by decide) (inr (by omega)) rfl ?_
                refine a_goto (tgt := 9) (kX3_parse.at 83 rfl) (by decide) ?_
                refine AW.loc (ls' := [(0, vR 1), (1, vI tk), (2, vI (i + 1))]) [0, 1, 2] rfl ?_
                first
                  | (have z := bad
                     exact fault9 G M K _ _ i tk (rd_bad h0 (by omega) hl e bad) rd_eq (by omega) rd_eq (hF.up (by omega)))
                  | exact ih (i + 1) _ (rdT Kr i (vAt (i % 4) (N 14 i))) _ (by omega) (by omega) nx (PI_step hP (by omega) (by omega) (fun p => by first | rw [rd_ne (by decide), if_neg (by omega)] | rw [if_neg (by omega)] | (rw [upm_same]; unfold ups; by_cases ep : p = i / 4; (rw [if_pos ep, if_pos (by omega)]); (rw [if_neg ep, if_neg (by omega)]))) (fun p => by first | rw [rd_ne (by decide), if_neg (by omega)] | rw [if_neg (by omega)] | (rw [upm_same]; unfold ups; by_cases ep : p = i / 4; (rw [if_pos ep, if_pos (by omega)]); (rw [if_neg ep, if_neg (by omega)]))) (fun p => by first | rw [rd_ne (by decide), if_neg (by omega)] | rw [if_neg (by omega)] | (rw [upm_same]; unfold ups; by_cases ep : p = i / 4; (rw [if_pos ep, if_pos (by omega)]); (rw [if_neg ep, if_neg (by omega)]))) (by first | rw [if_neg (by omega)] | rw [if_pos (by omega)])) (by first | exact hN | (rw [rd_ne (by decide)]; exact hN)) (by first | exact hF | exact hF.up (by omega)) (by omega)
        · refine a_iconst (kX3_parse.at 28 rfl) rfl ?_
          refine a_goto (tgt := 48) (kX3_parse.at 29 rfl) (by decide) ?_
          refine a_istore (ls' := [(0, vR 1), (1, vI tk), (2, vI i), (3, vI (i / 4)), (4, vI (vAt (i % 4) (N 14 i))), (5, vI 1)]) (kX3_parse.at 31 rfl) (by decide) rfl ?_
          refine a_iload_n (kX3_parse.at 32 rfl) 3 rfl ?_
          refine a_bipush (kX3_parse.at 33 rfl) rfl rfl ?_
          refine a_icmpge (tgt := 76) (kX3_parse.at 34 rfl) (by decide) (fun h53 => ?_) (fun h53 => ?_)
          · have bad : byteOf Kr (i % 4) (Kr 49 i) = -9 := by first | (exfalso; omega) | exact bv.1 (Or.inl (by rw [eb]; exact h59)) | exact bv.1 (Or.inr ⟨h40, by rw [eb]; exact h73⟩)
            refine a_aload_n (kX3_parse.at 44 rfl) 0 rfl ?_
            refine a_iload_n (kX3_parse.at 45 rfl) 2 rfl ?_
            refine a_putI (j := 6) (kX3_parse.at 46 rfl) fp_X3_24 (ii_1_6) rfl ?_
            refine a_goto (tgt := 139) (kX3_parse.at 47 rfl) (by decide) ?_
            refine a_iinc (ls' := [(0, vR 1), (1, vI tk), (2, vI (i + 1)), (3, vI (i / 4)), (4, vI (vAt (i % 4) (N 14 i))), (5, vI 1)]) (kX3_parse.at 82 rfl) 2 rfl (by decide) (inr (by omega)) rfl ?_
            refine a_goto (tgt := 9) (kX3_parse.at 83 rfl) (by decide) ?_
            refine AW.loc (ls' := [(0, vR 1), (1, vI tk), (2, vI (i + 1))]) [0, 1, 2] rfl ?_
            first
              | (have z := bad
                 exact fault9 G M K _ _ i tk (rd_bad h0 (by omega) hl e bad) rd_eq (by omega) rd_eq (hF.up (by omega)))
              | exact ih (i + 1) _ (rdT Kr i (vAt (i % 4) (N 14 i))) _ (by omega) (by omega) nx (PI_step hP (by omega) (by omega) (fun p => by first | rw [rd_ne (by decide), if_neg (by omega)] | rw [if_neg (by omega)] | (rw [upm_same]; unfold ups; by_cases ep : p = i / 4; (rw [if_pos ep, if_pos (by omega)]); (rw [if_neg ep, if_neg (by omega)]))) (fun p => by first | rw [rd_ne (by decide), if_neg (by omega)] | rw [if_neg (by omega)] | (rw [upm_same]; unfold ups; by_cases ep : p = i / 4; (rw [if_pos ep, if_pos (by omega)]); (rw [if_neg ep, if_neg (by omega)]))) (fun p => by first | rw [rd_ne (by decide), if_neg (by omega)] | rw [if_neg (by omega)] | (rw [upm_same]; unfold ups; by_cases ep : p = i / 4; (rw [if_pos ep, if_pos (by omega)]); (rw [if_neg ep, if_neg (by omega)]))) (by first | rw [if_neg (by omega)] | rw [if_pos (by omega)])) (by first | exact hN | (rw [rd_ne (by decide)]; exact hN)) (by first | exact hF | exact hF.up (by omega)) (by omega)
          · refine a_iload (kX3_parse.at 35 rfl) 4 rfl ?_
            refine a_iconst (kX3_parse.at 36 rfl) rfl ?_
            refine a_icmpeq (tgt := 76) (kX3_parse.at 37 rfl) (by decide) (fun h59 => ?_) (fun h59 => ?_)
            · have bad : byteOf Kr (i % 4) (Kr 49 i) = -9 := by first | (exfalso; omega) | exact bv.1 (Or.inl (by rw [eb]; exact h59)) | exact bv.1 (Or.inr ⟨h40, by rw [eb]; exact h73⟩)
              refine a_aload_n (kX3_parse.at 44 rfl) 0 rfl ?_
              refine a_iload_n (kX3_parse.at 45 rfl) 2 rfl ?_
              refine a_putI (j := 6) (kX3_parse.at 46 rfl) fp_X3_24 (ii_1_6) rfl ?_
              refine a_goto (tgt := 139) (kX3_parse.at 47 rfl) (by decide) ?_
              refine a_iinc (ls' := [(0, vR 1), (1, vI tk), (2, vI (i + 1)), (3, vI (i / 4)), (4, vI (vAt (i % 4) (N 14 i))), (5, vI 1)]) (kX3_parse.at 82 rfl) 2 rfl (by decide) (inr (by omega)) rfl ?_
              refine a_goto (tgt := 9) (kX3_parse.at 83 rfl) (by decide) ?_
              refine AW.loc (ls' := [(0, vR 1), (1, vI tk), (2, vI (i + 1))]) [0, 1, 2] rfl ?_
              first
                | (have z := bad
                   exact fault9 G M K _ _ i tk (rd_bad h0 (by omega) hl e bad) rd_eq (by omega) rd_eq (hF.up (by omega)))
                | exact ih (i + 1) _ (rdT Kr i (vAt (i % 4) (N 14 i))) _ (by omega) (by omega) nx (PI_step hP (by omega) (by omega) (fun p => by first | rw [rd_ne (by decide), if_neg (by omega)] | rw [if_neg (by omega)] | (rw [upm_same]; unfold ups; by_cases ep : p = i / 4; (rw [if_pos ep, if_pos (by omega)]); (rw [if_neg ep, if_neg (by omega)]))) (fun p => by first | rw [rd_ne (by decide), if_neg (by omega)] | rw [if_neg (by omega)] | (rw [upm_same]; unfold ups; by_cases ep : p = i / 4; (rw [if_pos ep, if_pos (by omega)]); (rw [if_neg ep, if_neg (by omega)]))) (fun p => by first | rw [rd_ne (by decide), if_neg (by omega)] | rw [if_neg (by omega)] | (rw [upm_same]; unfold ups; by_cases ep : p = i / 4; (rw [if_pos ep, if_pos (by omega)]); (rw [if_neg ep, if_neg (by omega)]))) (by first | rw [if_neg (by omega)] | rw [if_pos (by omega)])) (by first | exact hN | (rw [rd_ne (by decide)]; exact hN)) (by first | exact hF | exact hF.up (by omega)) (by omega)
            · refine a_iload (kX3_parse.at 38 rfl) 5 rfl ?_
              refine a_ifeq (tgt := 84) (kX3_parse.at 39 rfl) (by decide) (fun h64 => absurd h64 (by decide)) (fun h64 => ?_)
              refine a_iload_n (kX3_parse.at 40 rfl) 1 rfl ?_
              refine a_iload (kX3_parse.at 41 rfl) 4 rfl ?_
              refine AW.callSN (as := [vI tk, vI (vAt (i % 4) (N 14 i))]) (st := []) (kX3_parse.at 42 rfl) NW.a ss_X5_hasBit ⟨Nat.le_of_ble_eq_true rfl, Nat.le_of_ble_eq_true rfl⟩ ⟨Nat.le_refl _, Nat.le_refl _⟩ rfl rfl (Nat.le_of_ble_eq_true rfl) (k_hasBit G N tk (vAt (i % 4) (N 14 i)) (by omega) (by omega)) (kIE ?_)
              refine a_ifeqB (tgt := 84) (kX3_parse.at 43 rfl) (by decide) (fun h73 => ?_) (fun h73 => ?_)
              · have ok : byteOf Kr (i % 4) (Kr 49 i) = vAt (i % 4) (N 14 i) := by first | exact (bv.2 (by rw [eb]; exact h59) (fun z => h40 z.1)).trans (by rw [eb]) | exact (bv.2 (by rw [eb]; exact h59) (fun z => h73 (by rw [← eb]; exact z.2))).trans (by rw [eb])
                have nx : rdA K (i + 1) = (rdT Kr i (vAt (i % 4) (N 14 i)), -1) := by rw [rdA_s K h0, e, rdF_ok (by rw [ok]; omega), ok]
                refine a_iload (kX3_parse.at 48 rfl) 5 rfl ?_
                refine a_ifeq (tgt := 107) (kX3_parse.at 49 rfl) (by decide) (fun h86 => absurd h86 (by decide)) (fun h86 => ?_)
                refine a_aload_n (kX3_parse.at 50 rfl) 0 rfl ?_
                refine a_getR (kX3_parse.at 51 rfl) fg_X3_21 ir_1_3 ?_
                refine a_iload_n (kX3_parse.at 52 rfl) 3 rfl ?_
                refine a_iload (kX3_parse.at 53 rfl) 4 rfl ?_
                refine a_iast (kX3_parse.at 54 rfl) (ia_17) (by omega) ?_
                refine a_iload_n (kX3_parse.at 55 rfl) 1 rfl ?_
                refine a_iconst (kX3_parse.at 56 rfl) rfl ?_
                refine a_iload (kX3_parse.at 57 rfl) 4 rfl ?_
                refine a_ishl (kX3_parse.at 58 rfl) ?_
                refine a_ior (kX3_parse.at 59 rfl) ?_
                refine a_istore_n (ls' := [(0, vR 1), (1, vI (iOr tk (iShl 1 (vAt (i % 4) (N 14 i))))), (2, vI i), (3, vI (i / 4)), (4, vI (vAt (i % 4) (N 14 i))), (5, vI 1)]) (kX3_parse.at 60 rfl) (by decide) rfl ?_
                refine a_goto (tgt := 139) (kX3_parse.at 61 rfl) (by decide) ?_
                refine a_iinc (ls' := [(0, vR 1), (1, vI (iOr tk (iShl 1 (vAt (i % 4) (N 14 i))))), (2, vI (i + 1)), (3, vI (i / 4)), (4, vI (vAt (i % 4) (N 14 i))), (5, vI 1)]) (kX3_parse.at 82 rfl) 2 rfl (by decide) (inr (by omega)) rfl ?_
                refine a_goto (tgt := 9) (kX3_parse.at 83 rfl) (by decide) ?_
                refine AW.loc (ls' := [(0, vR 1), (1, vI (iOr tk (iShl 1 (vAt (i % 4) (N 14 i))))), (2, vI (i + 1))]) [0, 1, 2] rfl ?_
                first
                  | (have z := bad
                     exact fault9 G M K _ _ i tk (rd_bad h0 (by omega) hl e bad) rd_eq (by omega) rd_eq (hF.up (by omega)))
                  | exact ih (i + 1) _ (rdT Kr i (vAt (i % 4) (N 14 i))) _ (by omega) (by omega) nx (PI_step hP (by omega) (by omega) (fun p => by first | rw [rd_ne (by decide), if_neg (by omega)] | rw [if_neg (by omega)] | (rw [upm_same]; unfold ups; by_cases ep : p = i / 4; (rw [if_pos ep, if_pos (by omega)]); (rw [if_neg ep, if_neg (by omega)]))) (fun p => by first | rw [rd_ne (by decide), if_neg (by omega)] | rw [if_neg (by omega)] | (rw [upm_same]; unfold ups; by_cases ep : p = i / 4; (rw [if_pos ep, if_pos (by omega)]); (rw [if_neg ep, if_neg (by omega)]))) (fun p => by first | rw [rd_ne (by decide), if_neg (by omega)] | rw [if_neg (by omega)] | (rw [upm_same]; unfold ups; by_cases ep : p = i / 4; (rw [if_pos ep, if_pos (by omega)]); (rw [if_neg ep, if_neg (by omega)]))) (by first | rw [if_neg (by omega)] | rw [if_pos (by omega)])) (by first | exact hN | (rw [rd_ne (by decide)]; exact hN)) (by first | exact hF | exact hF.up (by omega)) (by omega)
              · have bad : byteOf Kr (i % 4) (Kr 49 i) = -9 := by first | (exfalso; omega) | exact bv.1 (Or.inl (by rw [eb]; exact h59)) | exact bv.1 (Or.inr ⟨h40, by rw [eb]; exact h73⟩)
                refine a_aload_n (kX3_parse.at 44 rfl) 0 rfl ?_
                refine a_iload_n (kX3_parse.at 45 rfl) 2 rfl ?_
                refine a_putI (j := 6) (kX3_parse.at 46 rfl) fp_X3_24 (ii_1_6) rfl ?_
                refine a_goto (tgt := 139) (kX3_parse.at 47 rfl) (by decide) ?_
                refine a_iinc (ls' := [(0, vR 1), (1, vI tk), (2, vI (i + 1)), (3, vI (i / 4)), (4, vI (vAt (i % 4) (N 14 i))), (5, vI 1)]) (kX3_parse.at 82 rfl) 2 rfl (by decide) (inr (by omega)) rfl ?_
                refine a_goto (tgt := 9) (kX3_parse.at 83 rfl) (by decide) ?_
                refine AW.loc (ls' := [(0, vR 1), (1, vI tk), (2, vI (i + 1))]) [0, 1, 2] rfl ?_
                first
                  | (have z := bad
                     exact fault9 G M K _ _ i tk (rd_bad h0 (by omega) hl e bad) rd_eq (by omega) rd_eq (hF.up (by omega)))
                  | exact ih (i + 1) _ (rdT Kr i (vAt (i % 4) (N 14 i))) _ (by omega) (by omega) nx (PI_step hP (by omega) (by omega) (fun p => by first | rw [rd_ne (by decide), if_neg (by omega)] | rw [if_neg (by omega)] | (rw [upm_same]; unfold ups; by_cases ep : p = i / 4; (rw [if_pos ep, if_pos (by omega)]); (rw [if_neg ep, if_neg (by omega)]))) (fun p => by first | rw [rd_ne (by decide), if_neg (by omega)] | rw [if_neg (by omega)] | (rw [upm_same]; unfold ups; by_cases ep : p = i / 4; (rw [if_pos ep, if_pos (by omega)]); (rw [if_neg ep, if_neg (by omega)]))) (fun p => by first | rw [rd_ne (by decide), if_neg (by omega)] | rw [if_neg (by omega)] | (rw [upm_same]; unfold ups; by_cases ep : p = i / 4; (rw [if_pos ep, if_pos (by omega)]); (rw [if_neg ep, if_neg (by omega)]))) (by first | rw [if_neg (by omega)] | rw [if_pos (by omega)])) (by first | exact hN | (rw [rd_ne (by decide)]; exact hN)) (by first | exact hF | exact hF.up (by omega)) (by omega)
theorem k_parse (G : GT) (M K : Mem) (hl : K 44 6 = M 1 4) (ht : 0 ≤ M 1 4 ∧ M 1 4 ≤ 31) (hb : ∀ i, 0 ≤ i → i < M 1 4 → M 14 i = K 49 i) : AM G yX3_parse cX3_parse 6 none 2 M [vR 1] (pV fun N => TX N K ∧ FX M N) := by
  refine AM.mk (own := RX3) rfl sv_X3_parse.1.2.2.2.2.2 (Nat.le_of_ble_eq_true rfl) rfl ?_
  refine a_iconst (kX3_parse.at 0 rfl) rfl ?_
  refine a_istore_n (ls' := [(0, vR 1), (1, vI 0)]) (kX3_parse.at 1 rfl) (by decide) rfl ?_
  refine a_aload_n (kX3_parse.at 2 rfl) 0 rfl ?_
  refine a_iconst (kX3_parse.at 3 rfl) rfl ?_
  refine a_putI (j := 6) (kX3_parse.at 4 rfl) fp_X3_24 (ii_1_6) rfl ?_
  refine a_iconst (kX3_parse.at 5 rfl) rfl ?_
  refine a_istore_n (ls' := [(0, vR 1), (1, vI 0), (2, vI 0)]) (kX3_parse.at 6 rfl) (by decide) rfl ?_
  exact l_parse G M K hl ht hb 40 0 _ _ 0 (by omega) ht.1 (rdA_0 K) (PI_0 _ _) rd_eq (fun c x a b d e => by (by_cases ec : c = 1; (rw [ec, rd_ni (by omega)]); (rw [rd_ne ec]))) (by omega)
