/-! ===== the class and the reference, coupled ===== -/
/-- what the class has been told, as the reference (K) has it -/
noncomputable def CTe (M K : Mem) : Prop := (M 1 4 = K 44 6 ∧ ∀ i, 0 ≤ i → i < K 44 6 → M 14 i = K 49 i) ∧ (M 2 3 = K 44 9 ∧ ∀ i, 0 ≤ i → i < K 44 9 → M 18 i = K 51 (3 * i) ∧ M 19 i = K 51 (3 * i + 1) ∧ M 20 i = K 51 (3 * i + 2)) ∧ EC M
noncomputable def CS (M K : Mem) : Prop := (∀ s : Nat, s < 4 → M (10 + s) 1 = K 45 s ∧ M (10 + s) 2 = K 46 s ∧ (0 ≤ K 45 s → ∀ i, 0 ≤ i → i < K 46 s → M (40 + s) i = K 47 (60 * s + i))) ∧ M 0 10 = K 44 4
/-- who moves where the events of g are gone, as bits -/
noncomputable def MvB (b : Int) (R : Mem) (g : Int) : Prop := (0 ≤ b ∧ b < 256) ∧ ∀ p, 0 ≤ p → p ≤ 7 → (isIn b p = true ↔ p < R 44 7 ∧ 0 < lives (upm R 44 11 g) 54 p)
noncomputable def CK (M K : Mem) : Prop := M 0 9 = 0 ∨ (M 0 9 = 1 ∧ ∀ sub, 0 ≤ sub → sub < iShl 1 (K 44 9) → MvB (M 9 sub) (reads K).1 (iShl 1 (K 44 9) - 1 - sub))
/-- the told course, but for who lives where now (a new one's is still empty) -/
noncomputable def SQ (M K : Mem) : Prop := M 4 8 = K 44 7 ∧ (∀ p, 0 ≤ p → p < K 44 7 → M 24 p = K 50 (3 * p) ∧ M 25 p = K 53 p ∧ M 26 p = K 52 p ∧ M 28 p = K 54 p ∧ M 29 p = K 55 p) ∧ True ∧ (M 4 9 = movesNow K ∧ M 4 10 = K 44 24 ∧ M 4 11 = K 44 25 ∧ M 4 12 = K 44 26 ∧ M 4 13 = K 44 27) ∧ (0 ≤ M 4 14 ∧ M 4 14 < 256) ∧ ∀ p, 0 ≤ p → p ≤ 7 → (isIn (M 4 14) p = true ↔ p < K 44 7 ∧ 0 < K 54 p)
theorem SC.q {M K : Mem} (h : SC M 0 K) : SQ M K := ⟨h.1, h.2.1, trivial, h.2.2.2⟩
theorem SQ.ext {N N' K : Mem} (h : SQ N K) (e : ∀ (c : Nat) (x : Int), c = 4 ∨ (24 ≤ c ∧ c ≤ 30) → N' c x = N c x) : SQ N' K := by
  obtain ⟨h1, h2, -, h4, h5, h6⟩ := h
  refine ⟨by rw [e _ _ (by omega)]; exact h1, fun p a b => ?_, trivial, ?_, by rw [e _ _ (by omega)]; exact h5, fun p a b => by rw [e _ _ (by omega)]; exact h6 p a b⟩
  · rw [e 24 _ (by omega), e 25 _ (by omega), e 26 _ (by omega), e 28 _ (by omega), e 29 _ (by omega)]
    exact h2 p a b
  · rw [e 4 9 (by omega), e 4 10 (by omega), e 4 11 (by omega), e 4 12 (by omega), e 4 13 (by omega)]
    exact h4
theorem k_agreeQ (G : GT) (M K : Mem) (q a b : Int) (hS : SQ M K) (hT : TR M 0 K 16) (h8 : K 44 7 ≤ 8) (hq : 0 ≤ q ∧ q ≤ 15) (ha : 0 ≤ a ∧ a < K 44 7) (hb : 0 ≤ b ∧ b < K 44 7) : AM G yX1_agreeBehind cX1_agreeBehind 4 (some .boolean) 1 M [vR 4, vI q, vI a, vI b] (qI (bI (agreed K q a b = true)) M) := by
  refine AM.mk (own := RX1) rfl sv_X1_agreeBehind.1.2.2.2.2.2 (Nat.le_of_ble_eq_true rfl) rfl ?_
  have sa := (hS.2.1 a ha.1 ha.2).1
  have sb := (hS.2.1 b hb.1 hb.2).1
  refine a_aload_n (kX1_agreeBehind.at 0 rfl) 0 rfl ?_
  refine a_getR (kX1_agreeBehind.at 1 rfl) fg_X1_9 ir_4_0 ?_
  refine a_iload_n (kX1_agreeBehind.at 2 rfl) 2 rfl ?_
  refine a_iald (x := M 24 a) (kX1_agreeBehind.at 3 rfl) (ia_24) (by omega) (rfl) ?_
  refine a_iconst (kX1_agreeBehind.at 4 rfl) rfl ?_
  refine a_icmpeq (tgt := 39) (kX1_agreeBehind.at 5 rfl) (by decide) (fun h7 => ?_) (fun h7 => ?_)
  · refine a_iconst (kX1_agreeBehind.at 23 rfl) rfl ?_
    exact a_zretE (kX1_agreeBehind.at 24 rfl) (by first | exact Or.inl rfl | exact Or.inr rfl | omega) (⟨by first | exact (bI_0 (fun z => ((agreed_iff K q a b).mp z).1 (sa.symm.trans h7))).symm | exact (bI_0 (fun z => ((agreed_iff K q a b).mp z).2.1 (sb.symm.trans h17))).symm | exact (bI_0 (fun z => h32 ((agreed_iff K q a b).mp z).2.2)).symm | exact (bI_1 ((agreed_iff K q a b).mpr ⟨fun z => h7 (sa.trans z), fun z => h17 (sb.trans z), h32⟩)).symm, rfl⟩)
  · refine a_aload_n (kX1_agreeBehind.at 6 rfl) 0 rfl ?_
    refine a_getR (kX1_agreeBehind.at 7 rfl) fg_X1_9 ir_4_0 ?_
    refine a_iload_n (kX1_agreeBehind.at 8 rfl) 3 rfl ?_
    refine a_iald (x := M 24 b) (kX1_agreeBehind.at 9 rfl) (ia_24) (by omega) (rfl) ?_
    refine a_iconst (kX1_agreeBehind.at 10 rfl) rfl ?_
    refine a_icmpeq (tgt := 39) (kX1_agreeBehind.at 11 rfl) (by decide) (fun h17 => ?_) (fun h17 => ?_)
    · refine a_iconst (kX1_agreeBehind.at 23 rfl) rfl ?_
      exact a_zretE (kX1_agreeBehind.at 24 rfl) (by first | exact Or.inl rfl | exact Or.inr rfl | omega) (⟨by first | exact (bI_0 (fun z => ((agreed_iff K q a b).mp z).1 (sa.symm.trans h7))).symm | exact (bI_0 (fun z => ((agreed_iff K q a b).mp z).2.1 (sb.symm.trans h17))).symm | exact (bI_0 (fun z => h32 ((agreed_iff K q a b).mp z).2.2)).symm | exact (bI_1 ((agreed_iff K q a b).mpr ⟨fun z => h7 (sa.trans z), fun z => h17 (sb.trans z), h32⟩)).symm, rfl⟩)
    · refine a_aload_n (kX1_agreeBehind.at 12 rfl) 0 rfl ?_
      refine a_iload_n (kX1_agreeBehind.at 13 rfl) 1 rfl ?_
      refine a_iload_n (kX1_agreeBehind.at 14 rfl) 2 rfl ?_
      refine AW.callV (as := [vI q, vI a]) (st := []) (kX1_agreeBehind.at 15 rfl) ml_X1_125 sv_X1_viewsBehind (k := 4) (io_4) rfl rfl ⟨Nat.le_of_ble_eq_true rfl, Nat.le_of_ble_eq_true rfl⟩ ⟨Nat.le_refl _, Nat.le_refl _⟩ rfl rfl (Nat.le_of_ble_eq_true rfl) (k_viewsBehind G M K 0 q a (by omega) hT h8 hq ha) (kIE ?_)
      refine a_aload_n (kX1_agreeBehind.at 16 rfl) 0 rfl ?_
      refine a_iload_n (kX1_agreeBehind.at 17 rfl) 1 rfl ?_
      refine a_iload_n (kX1_agreeBehind.at 18 rfl) 3 rfl ?_
      refine AW.callV (as := [vI q, vI b]) (st := [vI (K 57 (8 * q + a))]) (kX1_agreeBehind.at 19 rfl) ml_X1_125 sv_X1_viewsBehind (k := 4) (io_4) rfl rfl ⟨Nat.le_of_ble_eq_true rfl, Nat.le_of_ble_eq_true rfl⟩ ⟨Nat.le_refl _, Nat.le_refl _⟩ rfl rfl (Nat.le_of_ble_eq_true rfl) (k_viewsBehind G M K 0 q b (by omega) hT h8 hq hb) (kIE ?_)
      refine a_icmpne (tgt := 39) (kX1_agreeBehind.at 20 rfl) (by decide) (fun h32 => ?_) (fun h32 => ?_)
      · refine a_iconst (kX1_agreeBehind.at 23 rfl) rfl ?_
        exact a_zretE (kX1_agreeBehind.at 24 rfl) (by first | exact Or.inl rfl | exact Or.inr rfl | omega) (⟨by first | exact (bI_0 (fun z => ((agreed_iff K q a b).mp z).1 (sa.symm.trans h7))).symm | exact (bI_0 (fun z => ((agreed_iff K q a b).mp z).2.1 (sb.symm.trans h17))).symm | exact (bI_0 (fun z => h32 ((agreed_iff K q a b).mp z).2.2)).symm | exact (bI_1 ((agreed_iff K q a b).mpr ⟨fun z => h7 (sa.trans z), fun z => h17 (sb.trans z), h32⟩)).symm, rfl⟩)
      · refine a_iconst (kX1_agreeBehind.at 21 rfl) rfl ?_
        refine a_goto (tgt := 40) (kX1_agreeBehind.at 22 rfl) (by decide) ?_
        exact a_zretE (kX1_agreeBehind.at 24 rfl) (by first | exact Or.inl rfl | exact Or.inr rfl | omega) (⟨by first | exact (bI_0 (fun z => ((agreed_iff K q a b).mp z).1 (sa.symm.trans h7))).symm | exact (bI_0 (fun z => ((agreed_iff K q a b).mp z).2.1 (sb.symm.trans h17))).symm | exact (bI_0 (fun z => h32 ((agreed_iff K q a b).mp z).2.2)).symm | exact (bI_1 ((agreed_iff K q a b).mpr ⟨fun z => h7 (sa.trans z), fun z => h17 (sb.trans z), h32⟩)).symm, rfl⟩)
noncomputable def Cp (M K : Mem) : Prop := CTe M K ∧ TX M K ∧ QK M K ∧ (SQ M (find K) ∧ TR M 0 (find K) 16) ∧ CS M K ∧ CK M K
theorem EV_of {M K : Mem} (h : CTe M K) (h9 : 0 ≤ K 44 9 ∧ K 44 9 ≤ 8) (h12 : K 44 12 = -1) : EV K := by
  obtain ⟨-, ⟨h1, h2⟩, h3⟩ := h
  refine ⟨h9, fun i a b => ?_, fun z => by omega⟩
  have z := h2 i a b
  have y := h3.2 i a (by omega)
  rw [← z.1, ← z.2.1, ← z.2.2]
  exact y
/-- what load leaves is ready to run R, but for the events gone -/
theorem plX_W {M R : Mem} {sub q : Int} (he : M 2 3 = R 44 9) (hv : ∀ i, 0 ≤ i → i < R 44 9 → M 18 i = R 51 (3 * i) ∧ M 19 i = R 51 (3 * i + 1) ∧ M 20 i = R 51 (3 * i + 2)) (hg : ∀ e, 0 ≤ e → e < R 44 9 → (isIn sub e = true ↔ ¬ isIn (R 44 11) e = true)) (h12 : R 44 12 = -1) (hq : 0 ≤ q) : plX M sub q = plW R q := by
  unfold plX plW plW1
  rw [if_neg (by omega), he]
  refine forR_cong fun e w a b => ?_
  unfold pxF plE
  have z := hv e a b
  rw [z.1, z.2.1, z.2.2]
  by_cases e1 : R 51 (3 * e + 1) = q ∧ ¬ isIn (R 44 11) e = true
  · rw [if_pos e1, if_pos ⟨(hg e a b).mpr e1.2, e1.1⟩]
  · rw [if_neg e1, if_neg (fun y => e1 ⟨y.2, (hg e a b).mp y.1⟩)]
theorem all255 : ∀ e : Fin 8, isIn 255 (e.val : Int) = true ∧ ¬ isIn 0 (e.val : Int) = true := by decide +kernel
theorem in255 {e : Int} (h : 0 ≤ e ∧ e < 8) : isIn 255 e = true ∧ ¬ isIn 0 e = true := by
  have z := all255 ⟨e.toNat, by omega⟩
  simp only [] at z
  rw [show ((e.toNat : Nat) : Int) = e by omega] at z
  exact z
theorem lives_SR {R : Mem} (h : IR R) (hE : EV R) : SR (lives R) 16 0 0 := by
  rw [lives_eq]
  refine forR_inv (lo := 0) (hi := 16) (f := fun q N => passes N q) (a := lives0 R) (fun q N => SR N q 0 0 ∧ Fr R N) (by omega) ⟨SR_lives0 h, Fr_lives0 R⟩ (fun q N a b hN => ?_) |>.1
  obtain ⟨hR, hF⟩ := hN
  have hG := CG_pass2 hR.vr (hE.Fr hF) a
  have hp8 := hR.1
  have hR3 : SR (pass3 N q) q 0 (N 44 7) := (SR_comeAll (SR_CG hR hG) (n := N 44 7) (by rw [(Fr_pass2 N q).people]; omega)).1
  have p3 : pass3 N q 44 7 = N 44 7 := (Fr_pass3 N q).people
  have hR4 : SR (pass4 N q) (q + 1) 0 0 := by
    by_cases h23 : pass3 N q 44 23 = 0
    · rw [pass4_kn h23]
      exact (SR_knockAll hR3 a (n := N 44 7) (by omega)).1.next (by omega)
    · rw [pass4_hol h23]
      exact hR3.next (by omega)
  exact ⟨hR4.of (passes_by N q hp8.1).1, hF.trans (Fr_passes N q)⟩
