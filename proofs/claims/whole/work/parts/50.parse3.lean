/-! ===== the class: parse ===== -/
noncomputable def TX (N K : Mem) : Prop := N 1 6 = (reads K).2 ∧ N 1 5 = (reads K).1 44 7 ∧ ∀ p, 0 ≤ p → p < (reads K).1 44 7 → N 15 p = (reads K).1 50 (3 * p) ∧ N 16 p = (reads K).1 50 (3 * p + 1) ∧ N 17 p = (reads K).1 50 (3 * p + 2)
noncomputable def FX (M N : Mem) : Prop := ∀ (c : Nat) (x : Int), c ≠ 15 → c ≠ 16 → c ≠ 17 → ¬ (c = 1 ∧ (x = 5 ∨ x = 6)) → N c x = M c x
theorem FX.up {M N : Mem} (h : FX M N) {c : Nat} {i v : Int} (hc : c = 15 ∨ c = 16 ∨ c = 17 ∨ (c = 1 ∧ (i = 5 ∨ i = 6))) : FX M (upm N c i v) := fun c' x a b d e => by
  rw [← h c' x a b d e]
  by_cases ec : c' = c
  · subst ec
    rw [upm_same, ups_ne (by omega)]
  · rw [upm_ne ec]
theorem fault9 (G : GT) (M K N Kx : Mem) (i tk : Int) (hr : reads K = (Kx, i)) (h0 : Kx 44 7 = 0) (hi : 0 ≤ i ∧ i < 31) (hN : N 1 6 = i) (hF : FX M N) : AW G RX3 cX3_parse 6 none (XM G 2 (pV fun N' => TX N' K ∧ FX M N')) 9 [(0, vR 1), (1, vI tk), (2, vI (i + 1))] [] N := by
  have e2 : (reads K).2 = i := by rw [hr]
  have e1 : (reads K).1 44 7 = 0 := by rw [hr]; exact h0
  refine a_iload_n (kX3_parse.at 7 rfl) 2 rfl ?_
  refine a_aload_n (kX3_parse.at 8 rfl) 0 rfl ?_
  refine a_getI (x := N 1 4) (kX3_parse.at 9 rfl) fg_X3_28 ii_1_4 (rfl) ?_
  refine a_icmpge (tgt := 145) (kX3_parse.at 10 rfl) (by decide) (fun h14 => ?_) (fun h14 => ?_)
  · refine a_aload_n (kX3_parse.at 84 rfl) 0 rfl ?_
    refine a_getI (x := N 1 6) (kX3_parse.at 85 rfl) fg_X3_24 ii_1_6 (rfl) ?_
    refine a_iconst (kX3_parse.at 86 rfl) rfl ?_
    refine a_icmpne (tgt := 178) (kX3_parse.at 87 rfl) (by decide) (fun h150 => ?_) (fun h150 => ?_)
    · refine a_aload_n (kX3_parse.at 101 rfl) 0 rfl ?_
      refine a_aload_n (kX3_parse.at 102 rfl) 0 rfl ?_
      refine a_getI (x := N 1 6) (kX3_parse.at 103 rfl) fg_X3_24 ii_1_6 (rfl) ?_
      refine a_iconst (kX3_parse.at 104 rfl) rfl ?_
      refine a_icmpne (tgt := 198) (kX3_parse.at 105 rfl) (by decide) (fun h184 => ?_) (fun h184 => ?_)
      · refine a_iconst (kX3_parse.at 113 rfl) rfl ?_
        refine a_putI (j := 5) (kX3_parse.at 114 rfl) fp_X3_39 (ii_1_5) rfl ?_
        exact a_vret (kX3_parse.at 115 rfl) (⟨⟨by rw [rd_ni (by decide), e2]; exact hN, by rw [rd_eq, e1], fun p a b => by omega⟩, hF.up (by omega)⟩)
      · exfalso; omega
    · exfalso; omega
  · refine a_aload_n (kX3_parse.at 11 rfl) 0 rfl ?_
    refine a_getI (x := N 1 6) (kX3_parse.at 12 rfl) fg_X3_24 ii_1_6 (rfl) ?_
    refine a_iconst (kX3_parse.at 13 rfl) rfl ?_
    refine a_icmpne (tgt := 145) (kX3_parse.at 14 rfl) (by decide) (fun h22 => ?_) (fun h22 => ?_)
    · refine a_aload_n (kX3_parse.at 84 rfl) 0 rfl ?_
      refine a_getI (x := N 1 6) (kX3_parse.at 85 rfl) fg_X3_24 ii_1_6 (rfl) ?_
      refine a_iconst (kX3_parse.at 86 rfl) rfl ?_
      refine a_icmpne (tgt := 178) (kX3_parse.at 87 rfl) (by decide) (fun h150 => ?_) (fun h150 => ?_)
      · refine a_aload_n (kX3_parse.at 101 rfl) 0 rfl ?_
        refine a_aload_n (kX3_parse.at 102 rfl) 0 rfl ?_
        refine a_getI (x := N 1 6) (kX3_parse.at 103 rfl) fg_X3_24 ii_1_6 (rfl) ?_
        refine a_iconst (kX3_parse.at 104 rfl) rfl ?_
        refine a_icmpne (tgt := 198) (kX3_parse.at 105 rfl) (by decide) (fun h184 => ?_) (fun h184 => ?_)
        · refine a_iconst (kX3_parse.at 113 rfl) rfl ?_
          refine a_putI (j := 5) (kX3_parse.at 114 rfl) fp_X3_39 (ii_1_5) rfl ?_
          exact a_vret (kX3_parse.at 115 rfl) (⟨⟨by rw [rd_ni (by decide), e2]; exact hN, by rw [rd_eq, e1], fun p a b => by omega⟩, hF.up (by omega)⟩)
        · exfalso; omega
      · exfalso; omega
    · exfalso; omega
theorem rd_bad {K Kr : Mem} {i n : Int} (hi : 0 ≤ i) (hn : i < n) (hl : K 44 6 = n) (e : rdA K i = (Kr, -1)) (hb : byteOf Kr (i % 4) (Kr 49 i) = -9) : reads K = (upm Kr 44 7 0, i) := by
  have e1 : rdA K (i + 1) = (upm Kr 44 7 0, i) := by rw [rdA_s K hi, e, rdF_bad hb]
  have e2 : rdA K n = (upm Kr 44 7 0, i) := by rw [rdA_stay K (i := i + 1) (j := n) (by omega) (by omega) (by rw [e1]; simp only; omega), e1]
  rw [reads_eq]
  unfold reads0
  rw [hl, e2, if_pos (by simp only; omega)]
theorem a_parse145 (G : GT) (M K N Kr : Mem) (tk : Int) (hl : K 44 6 = M 1 4) (ht : 0 ≤ M 1 4 ∧ M 1 4 ≤ 31) (e : rdA K (M 1 4) = (Kr, -1)) (hP : PI N Kr (M 1 4) tk) (hN : N 1 6 = -1) (hF : FX M N) : AW G RX3 cX3_parse 6 none (XM G 2 (pV fun N' => TX N' K ∧ FX M N')) 145 [(0, vR 1), (1, vI tk), (2, vI (M 1 4))] [] N := by
  have e4 : N 1 4 = M 1 4 := hF 1 4 (by omega) (by omega) (by omega) (by omega)
  have hp := (rdA_people K ht.1 (by rw [e])).1
  rw [e] at hp
  simp only at hp
  refine a_aload_n (kX3_parse.at 84 rfl) 0 rfl ?_
  refine a_getI (x := N 1 6) (kX3_parse.at 85 rfl) fg_X3_24 ii_1_6 (rfl) ?_
  refine a_iconst (kX3_parse.at 86 rfl) rfl ?_
  refine a_icmpne (tgt := 178) (kX3_parse.at 87 rfl) (by decide) (fun h150 => ?_) (fun h150 => ?_)
  · refine a_aload_n (kX3_parse.at 101 rfl) 0 rfl ?_
    refine a_aload_n (kX3_parse.at 102 rfl) 0 rfl ?_
    refine a_getI (x := N 1 6) (kX3_parse.at 103 rfl) fg_X3_24 ii_1_6 (rfl) ?_
    refine a_iconst (kX3_parse.at 104 rfl) rfl ?_
    refine a_icmpne (tgt := 198) (kX3_parse.at 105 rfl) (by decide) (fun h184 => ?_) (fun h184 => ?_)
    · refine a_iconst (kX3_parse.at 113 rfl) rfl ?_
      refine a_putI (j := 5) (kX3_parse.at 114 rfl) fp_X3_39 (ii_1_5) rfl ?_
      exact a_vret (kX3_parse.at 115 rfl) (by first | (exfalso; omega) | exact ⟨⟨by rw [rd_ni (by decide), hr]; exact hN, by rw [rd_eq, hr, e4]; exact hp.symm, fun p a b => by rw [hr] at b ⊢; simp only at b ⊢; rw [hp] at b; exact ⟨hP.1 p a (by omega), hP.2.1 p a (by omega), hP.2.2.1 p a (by omega)⟩⟩, hF.up (by omega)⟩ | exact ⟨⟨by rw [rd_ni (by decide), rd_eq, hr, e4]; exact hl.symm, by rw [rd_eq, hr]; rfl, fun p a b => by rw [hr] at b; simp only [rd_eq] at b; omega⟩, (hF.up (by omega)).up (by omega)⟩)
    · have hr := reads_ok (M := K) (N := Kr) (by rw [hl]; exact e) (by rw [hl]; omega)
      refine a_aload_n (kX3_parse.at 106 rfl) 0 rfl ?_
      refine a_getI (x := N 1 4) (kX3_parse.at 107 rfl) fg_X3_28 ii_1_4 (rfl) ?_
      refine a_iconst (kX3_parse.at 108 rfl) rfl ?_
      refine a_iadd (kX3_parse.at 109 rfl) (inr (by omega)) ?_
      refine a_iconst (kX3_parse.at 110 rfl) rfl ?_
      refine a_idiv (kX3_parse.at 111 rfl) (by omega) (by omega) ?_
      refine a_goto (tgt := 199) (kX3_parse.at 112 rfl) (by decide) ?_
      refine a_putI (j := 5) (kX3_parse.at 114 rfl) fp_X3_39 (ii_1_5) rfl ?_
      exact a_vret (kX3_parse.at 115 rfl) (by first | (exfalso; omega) | exact ⟨⟨by rw [rd_ni (by decide), hr]; exact hN, by rw [rd_eq, hr, e4]; exact hp.symm, fun p a b => by rw [hr] at b ⊢; simp only at b ⊢; rw [hp] at b; exact ⟨hP.1 p a (by omega), hP.2.1 p a (by omega), hP.2.2.1 p a (by omega)⟩⟩, hF.up (by omega)⟩ | exact ⟨⟨by rw [rd_ni (by decide), rd_eq, hr, e4]; exact hl.symm, by rw [rd_eq, hr]; rfl, fun p a b => by rw [hr] at b; simp only [rd_eq] at b; omega⟩, (hF.up (by omega)).up (by omega)⟩)
  · refine a_aload_n (kX3_parse.at 88 rfl) 0 rfl ?_
    refine a_getI (x := N 1 4) (kX3_parse.at 89 rfl) fg_X3_28 ii_1_4 (rfl) ?_
    refine a_ifle (tgt := 178) (kX3_parse.at 90 rfl) (by decide) (fun h157 => ?_) (fun h157 => ?_)
    · refine a_aload_n (kX3_parse.at 101 rfl) 0 rfl ?_
      refine a_aload_n (kX3_parse.at 102 rfl) 0 rfl ?_
      refine a_getI (x := N 1 6) (kX3_parse.at 103 rfl) fg_X3_24 ii_1_6 (rfl) ?_
      refine a_iconst (kX3_parse.at 104 rfl) rfl ?_
      refine a_icmpne (tgt := 198) (kX3_parse.at 105 rfl) (by decide) (fun h184 => ?_) (fun h184 => ?_)
      · refine a_iconst (kX3_parse.at 113 rfl) rfl ?_
        refine a_putI (j := 5) (kX3_parse.at 114 rfl) fp_X3_39 (ii_1_5) rfl ?_
        exact a_vret (kX3_parse.at 115 rfl) (by first | (exfalso; omega) | exact ⟨⟨by rw [rd_ni (by decide), hr]; exact hN, by rw [rd_eq, hr, e4]; exact hp.symm, fun p a b => by rw [hr] at b ⊢; simp only at b ⊢; rw [hp] at b; exact ⟨hP.1 p a (by omega), hP.2.1 p a (by omega), hP.2.2.1 p a (by omega)⟩⟩, hF.up (by omega)⟩ | exact ⟨⟨by rw [rd_ni (by decide), rd_eq, hr, e4]; exact hl.symm, by rw [rd_eq, hr]; rfl, fun p a b => by rw [hr] at b; simp only [rd_eq] at b; omega⟩, (hF.up (by omega)).up (by omega)⟩)
      · have hr := reads_ok (M := K) (N := Kr) (by rw [hl]; exact e) (by rw [hl]; omega)
        refine a_aload_n (kX3_parse.at 106 rfl) 0 rfl ?_
        refine a_getI (x := N 1 4) (kX3_parse.at 107 rfl) fg_X3_28 ii_1_4 (rfl) ?_
        refine a_iconst (kX3_parse.at 108 rfl) rfl ?_
        refine a_iadd (kX3_parse.at 109 rfl) (inr (by omega)) ?_
        refine a_iconst (kX3_parse.at 110 rfl) rfl ?_
        refine a_idiv (kX3_parse.at 111 rfl) (by omega) (by omega) ?_
        refine a_goto (tgt := 199) (kX3_parse.at 112 rfl) (by decide) ?_
        refine a_putI (j := 5) (kX3_parse.at 114 rfl) fp_X3_39 (ii_1_5) rfl ?_
        exact a_vret (kX3_parse.at 115 rfl) (by first | (exfalso; omega) | exact ⟨⟨by rw [rd_ni (by decide), hr]; exact hN, by rw [rd_eq, hr, e4]; exact hp.symm, fun p a b => by rw [hr] at b ⊢; simp only at b ⊢; rw [hp] at b; exact ⟨hP.1 p a (by omega), hP.2.1 p a (by omega), hP.2.2.1 p a (by omega)⟩⟩, hF.up (by omega)⟩ | exact ⟨⟨by rw [rd_ni (by decide), rd_eq, hr, e4]; exact hl.symm, by rw [rd_eq, hr]; rfl, fun p a b => by rw [hr] at b; simp only [rd_eq] at b; omega⟩, (hF.up (by omega)).up (by omega)⟩)
    · refine a_aload_n (kX3_parse.at 91 rfl) 0 rfl ?_
      refine a_getI (x := N 1 4) (kX3_parse.at 92 rfl) fg_X3_28 ii_1_4 (rfl) ?_
      refine a_iconst (kX3_parse.at 93 rfl) rfl ?_
      refine a_irem (kX3_parse.at 94 rfl) (by omega) (by omega) ?_
      refine a_iconst (kX3_parse.at 95 rfl) rfl ?_
      refine a_icmpeq (tgt := 178) (kX3_parse.at 96 rfl) (by decide) (fun h167 => ?_) (fun h167 => ?_)
      · refine a_aload_n (kX3_parse.at 101 rfl) 0 rfl ?_
        refine a_aload_n (kX3_parse.at 102 rfl) 0 rfl ?_
        refine a_getI (x := N 1 6) (kX3_parse.at 103 rfl) fg_X3_24 ii_1_6 (rfl) ?_
        refine a_iconst (kX3_parse.at 104 rfl) rfl ?_
        refine a_icmpne (tgt := 198) (kX3_parse.at 105 rfl) (by decide) (fun h184 => ?_) (fun h184 => ?_)
        · refine a_iconst (kX3_parse.at 113 rfl) rfl ?_
          refine a_putI (j := 5) (kX3_parse.at 114 rfl) fp_X3_39 (ii_1_5) rfl ?_
          exact a_vret (kX3_parse.at 115 rfl) (by first | (exfalso; omega) | exact ⟨⟨by rw [rd_ni (by decide), hr]; exact hN, by rw [rd_eq, hr, e4]; exact hp.symm, fun p a b => by rw [hr] at b ⊢; simp only at b ⊢; rw [hp] at b; exact ⟨hP.1 p a (by omega), hP.2.1 p a (by omega), hP.2.2.1 p a (by omega)⟩⟩, hF.up (by omega)⟩ | exact ⟨⟨by rw [rd_ni (by decide), rd_eq, hr, e4]; exact hl.symm, by rw [rd_eq, hr]; rfl, fun p a b => by rw [hr] at b; simp only [rd_eq] at b; omega⟩, (hF.up (by omega)).up (by omega)⟩)
        · have hr := reads_ok (M := K) (N := Kr) (by rw [hl]; exact e) (by rw [hl]; omega)
          refine a_aload_n (kX3_parse.at 106 rfl) 0 rfl ?_
          refine a_getI (x := N 1 4) (kX3_parse.at 107 rfl) fg_X3_28 ii_1_4 (rfl) ?_
          refine a_iconst (kX3_parse.at 108 rfl) rfl ?_
          refine a_iadd (kX3_parse.at 109 rfl) (inr (by omega)) ?_
          refine a_iconst (kX3_parse.at 110 rfl) rfl ?_
          refine a_idiv (kX3_parse.at 111 rfl) (by omega) (by omega) ?_
          refine a_goto (tgt := 199) (kX3_parse.at 112 rfl) (by decide) ?_
          refine a_putI (j := 5) (kX3_parse.at 114 rfl) fp_X3_39 (ii_1_5) rfl ?_
          exact a_vret (kX3_parse.at 115 rfl) (by first | (exfalso; omega) | exact ⟨⟨by rw [rd_ni (by decide), hr]; exact hN, by rw [rd_eq, hr, e4]; exact hp.symm, fun p a b => by rw [hr] at b ⊢; simp only at b ⊢; rw [hp] at b; exact ⟨hP.1 p a (by omega), hP.2.1 p a (by omega), hP.2.2.1 p a (by omega)⟩⟩, hF.up (by omega)⟩ | exact ⟨⟨by rw [rd_ni (by decide), rd_eq, hr, e4]; exact hl.symm, by rw [rd_eq, hr]; rfl, fun p a b => by rw [hr] at b; simp only [rd_eq] at b; omega⟩, (hF.up (by omega)).up (by omega)⟩)
      · have hr := reads_mid (M := K) (N := Kr) (by rw [hl]; exact e) (by rw [hl]; omega)
        refine a_aload_n (kX3_parse.at 97 rfl) 0 rfl ?_
        refine a_aload_n (kX3_parse.at 98 rfl) 0 rfl ?_
        refine a_getI (x := N 1 4) (kX3_parse.at 99 rfl) fg_X3_28 ii_1_4 (rfl) ?_
        refine a_putI (j := 6) (kX3_parse.at 100 rfl) fp_X3_24 (ii_1_6) rfl ?_
        refine a_aload_n (kX3_parse.at 101 rfl) 0 rfl ?_
        refine a_aload_n (kX3_parse.at 102 rfl) 0 rfl ?_
        refine a_getI (x := N 1 4) (kX3_parse.at 103 rfl) fg_X3_24 ii_1_6 (rd_eq) ?_
        refine a_iconst (kX3_parse.at 104 rfl) rfl ?_
        refine a_icmpne (tgt := 198) (kX3_parse.at 105 rfl) (by decide) (fun h184 => ?_) (fun h184 => ?_)
        · refine a_iconst (kX3_parse.at 113 rfl) rfl ?_
          refine a_putI (j := 5) (kX3_parse.at 114 rfl) fp_X3_39 (ii_1_5) rfl ?_
          exact a_vret (kX3_parse.at 115 rfl) (by first | (exfalso; omega) | exact ⟨⟨by rw [rd_ni (by decide), hr]; exact hN, by rw [rd_eq, hr, e4]; exact hp.symm, fun p a b => by rw [hr] at b ⊢; simp only at b ⊢; rw [hp] at b; exact ⟨hP.1 p a (by omega), hP.2.1 p a (by omega), hP.2.2.1 p a (by omega)⟩⟩, hF.up (by omega)⟩ | exact ⟨⟨by rw [rd_ni (by decide), rd_eq, hr, e4]; exact hl.symm, by rw [rd_eq, hr]; rfl, fun p a b => by rw [hr] at b; simp only [rd_eq] at b; omega⟩, (hF.up (by omega)).up (by omega)⟩)
        · have hr := reads_ok (M := K) (N := Kr) (by rw [hl]; exact e) (by rw [hl]; omega)
          refine a_aload_n (kX3_parse.at 106 rfl) 0 rfl ?_
          refine a_getI (x := N 1 4) (kX3_parse.at 107 rfl) fg_X3_28 ii_1_4 (rd_ni (by decide)) ?_
          refine a_iconst (kX3_parse.at 108 rfl) rfl ?_
          refine a_iadd (kX3_parse.at 109 rfl) (inr (by omega)) ?_
          refine a_iconst (kX3_parse.at 110 rfl) rfl ?_
          refine a_idiv (kX3_parse.at 111 rfl) (by omega) (by omega) ?_
          refine a_goto (tgt := 199) (kX3_parse.at 112 rfl) (by decide) ?_
          refine a_putI (j := 5) (kX3_parse.at 114 rfl) fp_X3_39 (ii_1_5) rfl ?_
          exact a_vret (kX3_parse.at 115 rfl) (by first | (exfalso; omega) | exact ⟨⟨by rw [rd_ni (by decide), hr]; exact hN, by rw [rd_eq, hr, e4]; exact hp.symm, fun p a b => by rw [hr] at b ⊢; simp only at b ⊢; rw [hp] at b; exact ⟨hP.1 p a (by omega), hP.2.1 p a (by omega), hP.2.2.1 p a (by omega)⟩⟩, hF.up (by omega)⟩ | exact ⟨⟨by rw [rd_ni (by decide), rd_eq, hr, e4]; exact hl.symm, by rw [rd_eq, hr]; rfl, fun p a b => by rw [hr] at b; simp only [rd_eq] at b; omega⟩, (hF.up (by omega)).up (by omega)⟩)
