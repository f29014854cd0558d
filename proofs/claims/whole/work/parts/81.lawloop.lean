/-! ===== the law: its loop ===== -/
set_option maxHeartbeats 4000000 in
set_option maxRecDepth 100000 in
theorem law_loop (G : GT) (b L : Nat) (xs : Nat → Int32) (hL : L ≤ 3072) : ∀ (nn : Nat) (i : Int) (M : Mem), Inv M → 0 ≤ i → i ≤ L + 6 → L + 6 - i < nn → AW G R_law code 4 ret (XL G b L xs) 18 [(0, vR 63), (1, vR 0), (2, vR 44), (3, vI i)] [] M := by
  intro nn
  induction nn with
  | zero => intro i M hI h0 h1 h2; omega
  | succ nn ih =>
    intro i M hI h0 h1 hn
    have kk : i + 6 ≤ L → ∀ N, Inv N → AW G R_law code 4 ret (XL G b L xs) 1195 [(0, vR 63), (1, vR 0), (2, vR 44), (3, vI i)] [] N := fun u N hN => by
      refine a_iinc (ls' := [(0, vR 63), (1, vR 0), (2, vR 44), (3, vI (i + 6))]) (kL13.at 39 rfl) 3 rfl (by decide) (inr (by omega)) rfl ?_
      refine a_goto (tgt := 18) (kL13.at 40 rfl) (by decide) ?_
      exact ih (i + 6) N hN (by omega) (by omega) (by omega)
    refine a_iload_n (kL0.at 10 rfl) 3 rfl ?_
    refine a_aload_n (kL0.at 11 rfl) 0 rfl ?_
    refine a_slen (kL0.at 12 rfl) hL ?_
    refine a_bipush (kL0.at 13 rfl) rfl rfl ?_
    refine a_isub (kL0.at 14 rfl) (inr (by omega)) ?_
    refine a_icmpgt (tgt := 1201) (kL0.at 15 rfl) (by decide) (fun h24 => ?_) (fun h24 => ?_)
    · refine a_iconst (kL13.at 41 rfl) rfl ?_
      exact a_lend (kL13.at 42 rfl)
    · refine a_aload_n (kL0.at 16 rfl) 0 rfl ?_
      refine a_iload_n (kL0.at 17 rfl) 3 rfl ?_
      refine a_sld (kL0.at 18 rfl) (by omega) ?_
      refine a_bipush (kL0.at 19 rfl) rfl rfl ?_
      refine a_iand (kL0.at 20 rfl) ?_
      rcases sw0_34 (x := iAnd (sc xs i) 63) with h33_0 | h33_1 | h33_2 | h33_3 | h33_4 | h33_5 | h33_6 | h33_7 | h33_8 | h33_9 | h33_10 | h33_11 | h33_12 | h33_13 | h33_14 | h33_15 | h33_16 | h33_17 | h33_18 | h33_19 | h33_20 | h33_21 | h33_22 | h33_23 | h33_24 | h33_25 | h33_26 | h33_27 | h33_28 | h33_29 | h33_30 | h33_31 | h33_32 | h33_33 | h33_34 | h33_d
      · refine a_tabIn (off := 155) (tgt := 188) (kL0.at 21 rfl) (by omega) (by omega) (by rw [h33_0]; rfl) (by decide) ?_
        exact lc_type G b L xs M i hL h0 (by omega) hI (kk (by omega))
      · refine a_tabIn (off := 178) (tgt := 211) (kL0.at 21 rfl) (by omega) (by omega) (by rw [h33_1]; rfl) (by decide) ?_
        exact lc_wipe G b L xs M i hL h0 (by omega) hI (kk (by omega))
      · refine a_tabIn (off := 191) (tgt := 224) (kL0.at 21 rfl) (by omega) (by omega) (by rw [h33_2]; rfl) (by decide) ?_
        exact lc_undo G b L xs M i hL h0 (by omega) hI (kk (by omega))
      · refine a_tabIn (off := 204) (tgt := 237) (kL0.at 21 rfl) (by omega) (by omega) (by rw [h33_3]; rfl) (by decide) ?_
        exact lc_fault G b L xs M i hL h0 (by omega) hI (kk (by omega))
      · refine a_tabIn (off := 217) (tgt := 250) (kL0.at 21 rfl) (by omega) (by omega) (by rw [h33_4]; rfl) (by decide) ?_
        exact lc_person G b L xs M i hL h0 (by omega) hI (kk (by omega))
      · refine a_tabIn (off := 250) (tgt := 283) (kL0.at 21 rfl) (by omega) (by omega) (by rw [h33_5]; rfl) (by decide) ?_
        exact lc_event G b L xs M i hL h0 (by omega) hI (kk (by omega))
      · refine a_tabIn (off := 293) (tgt := 326) (kL0.at 21 rfl) (by omega) (by omega) (by rw [h33_6]; rfl) (by decide) ?_
        exact lc_back G b L xs M i hL h0 (by omega) hI (kk (by omega))
      · refine a_tabIn (off := 306) (tgt := 339) (kL0.at 21 rfl) (by omega) (by omega) (by rw [h33_7]; rfl) (by decide) ?_
        exact lc_read G b L xs M i hL h0 (by omega) hI (kk (by omega))
      · refine a_tabIn (off := 329) (tgt := 362) (kL0.at 21 rfl) (by omega) (by omega) (by rw [h33_8]; rfl) (by decide) ?_
        exact lc_at G b L xs M i hL h0 (by omega) hI (kk (by omega))
      · refine a_tabIn (off := 372) (tgt := 405) (kL0.at 21 rfl) (by omega) (by omega) (by rw [h33_9]; rfl) (by decide) ?_
        exact lc_house G b L xs M i hL h0 (by omega) hI (kk (by omega))
      · refine a_tabIn (off := 405) (tgt := 438) (kL0.at 21 rfl) (by omega) (by omega) (by rw [h33_10]; rfl) (by decide) ?_
        exact lc_pairs G b L xs M i hL h0 (by omega) hI (kk (by omega))
      · refine a_tabIn (off := 438) (tgt := 471) (kL0.at 21 rfl) (by omega) (by omega) (by rw [h33_11]; rfl) (by decide) ?_
        exact lc_bored G b L xs M i hL h0 (by omega) hI (kk (by omega))
      · refine a_tabIn (off := 461) (tgt := 494) (kL0.at 21 rfl) (by omega) (by omega) (by rw [h33_12]; rfl) (by decide) ?_
        exact lc_sum G b L xs M i hL h0 (by omega) hI (kk (by omega))
      · refine a_tabIn (off := 484) (tgt := 517) (kL0.at 21 rfl) (by omega) (by omega) (by rw [h33_13]; rfl) (by decide) ?_
        exact lc_first G b L xs M i hL h0 (by omega) hI (kk (by omega))
      · refine a_tabIn (off := 507) (tgt := 540) (kL0.at 21 rfl) (by omega) (by omega) (by rw [h33_14]; rfl) (by decide) ?_
        exact lc_rooted G b L xs M i hL h0 (by omega) hI (kk (by omega))
      · refine a_tabIn (off := 520) (tgt := 553) (kL0.at 21 rfl) (by omega) (by omega) (by rw [h33_15]; rfl) (by decide) ?_
        exact lc_friends G b L xs M i hL h0 (by omega) hI (kk (by omega))
      · refine a_tabIn (off := 543) (tgt := 576) (kL0.at 21 rfl) (by omega) (by omega) (by rw [h33_16]; rfl) (by decide) ?_
        exact lc_settle G b L xs M i hL h0 (by omega) hI (kk (by omega))
      · refine a_tabIn (off := 576) (tgt := 609) (kL0.at 21 rfl) (by omega) (by omega) (by rw [h33_17]; rfl) (by decide) ?_
        exact lc_think G b L xs M i hL h0 (by omega) hI (kk (by omega))
      · refine a_tabIn (off := 609) (tgt := 642) (kL0.at 21 rfl) (by omega) (by omega) (by rw [h33_18]; rfl) (by decide) ?_
        exact lc_rest G b L xs M i hL h0 (by omega) hI (kk (by omega))
      · refine a_tabIn (off := 632) (tgt := 665) (kL0.at 21 rfl) (by omega) (by omega) (by rw [h33_19]; rfl) (by decide) ?_
        exact lc_spare G b L xs M i hL h0 (by omega) hI (kk (by omega))
      · refine a_tabIn (off := 655) (tgt := 688) (kL0.at 21 rfl) (by omega) (by omega) (by rw [h33_20]; rfl) (by decide) ?_
        exact lc_seen G b L xs M i hL h0 (by omega) hI (kk (by omega))
      · refine a_tabIn (off := 698) (tgt := 731) (kL0.at 21 rfl) (by omega) (by omega) (by rw [h33_21]; rfl) (by decide) ?_
        exact lc_forget G b L xs M i hL h0 (by omega) hI (kk (by omega))
      · refine a_tabIn (off := 711) (tgt := 744) (kL0.at 21 rfl) (by omega) (by omega) (by rw [h33_22]; rfl) (by decide) ?_
        exact lc_never G b L xs M i hL h0 (by omega) hI (kk (by omega))
      · refine a_tabIn (off := 724) (tgt := 757) (kL0.at 21 rfl) (by omega) (by omega) (by rw [h33_23]; rfl) (by decide) ?_
        exact lc_was G b L xs M i hL h0 (by omega) hI (kk (by omega))
      · refine a_tabIn (off := 757) (tgt := 790) (kL0.at 21 rfl) (by omega) (by omega) (by rw [h33_24]; rfl) (by decide) ?_
        exact lc_ask G b L xs M i hL h0 (by omega) hI (kk (by omega))
      · refine a_tabIn (off := 780) (tgt := 813) (kL0.at 21 rfl) (by omega) (by omega) (by rw [h33_25]; rfl) (by decide) ?_
        exact lc_chance G b L xs M i hL h0 (by omega) hI (kk (by omega))
      · refine a_tabIn (off := 824) (tgt := 857) (kL0.at 21 rfl) (by omega) (by omega) (by rw [h33_26]; rfl) (by decide) ?_
        exact lc_decades G b L xs M i hL h0 (by omega) hI (kk (by omega))
      · refine a_tabIn (off := 867) (tgt := 900) (kL0.at 21 rfl) (by omega) (by omega) (by rw [h33_27]; rfl) (by decide) ?_
        exact lc_sheet G b L xs M i hL h0 (by omega) hI (kk (by omega))
      · refine a_tabIn (off := 910) (tgt := 943) (kL0.at 21 rfl) (by omega) (by omega) (by rw [h33_28]; rfl) (by decide) ?_
        exact lc_lose G b L xs M i hL h0 (by omega) hI (kk (by omega))
      · refine a_tabIn (off := 933) (tgt := 966) (kL0.at 21 rfl) (by omega) (by omega) (by rw [h33_29]; rfl) (by decide) ?_
        exact lc_lay G b L xs M i hL h0 (by omega) hI (kk (by omega))
      · refine a_tabIn (off := 986) (tgt := 1019) (kL0.at 21 rfl) (by omega) (by omega) (by rw [h33_30]; rfl) (by decide) ?_
        exact lc_get G b L xs M i hL h0 (by omega) hI (kk (by omega))
      · refine a_tabIn (off := 1029) (tgt := 1062) (kL0.at 21 rfl) (by omega) (by omega) (by rw [h33_31]; rfl) (by decide) ?_
        exact lc_copy G b L xs M i hL h0 (by omega) hI (kk (by omega))
      · refine a_tabIn (off := 1092) (tgt := 1125) (kL0.at 21 rfl) (by omega) (by omega) (by rw [h33_32]; rfl) (by decide) ?_
        exact lc_write G b L xs M i hL h0 (by omega) hI (kk (by omega))
      · refine a_tabIn (off := 1125) (tgt := 1158) (kL0.at 21 rfl) (by omega) (by omega) (by rw [h33_33]; rfl) (by decide) ?_
        exact lc_count G b L xs M i hL h0 (by omega) hI (kk (by omega))
      · refine a_tabIn (off := 1148) (tgt := 1181) (kL0.at 21 rfl) (by omega) (by omega) (by rw [h33_34]; rfl) (by decide) ?_
        exact lc_digest G b L xs M i hL h0 (by omega) hI (kk (by omega))
      · refine a_tabOut (tgt := 1195) (kL0.at 21 rfl) (by omega) (by decide) ?_
        exact kk (by omega) M hI
