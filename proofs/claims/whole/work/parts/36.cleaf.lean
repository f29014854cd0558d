/-! ===== the class: leaves ===== -/
noncomputable def flF (ka : Nat) (v : Int) : Int → Mem → Mem := fun i N => upm N ka i v
set_option maxHeartbeats 4000000 in
set_option maxRecDepth 100000 in
theorem l_fill (G : GT) (M : Mem) (ka na : Nat) (v : Int) (P : Option AV → Mem → Prop) (hA : isA ka na) (hnI : inI (na : Int)) (hlohi : (0 : Int) ≤ (na : Int)) (kk : AW G RJ7 cJ7_fill_53178 4 none (XM G 0 P) 20 [(0, vR ka), (1, vI v), (2, vI (na : Int)), (3, vI (na : Int))] [] (forR 0 (na : Int) (flF ka v) M)) : AW G RJ7 cJ7_fill_53178 4 none (XM G 0 P) 5 [(0, vR ka), (1, vI v), (2, vI 0), (3, vI (na : Int))] [] M := by
  have key : ∀ (nn : Nat) (i : Int) (N : Mem), (0 : Int) ≤ i → i ≤ (na : Int) → N = forR 0 i (flF ka v) M → (na : Int) - i < nn → AW G RJ7 cJ7_fill_53178 4 none (XM G 0 P) 5 [(0, vR ka), (1, vI v), (2, vI i), (3, vI (na : Int))] [] N := by
    intro nn
    induction nn with
    | zero => intro i N hk0 hk1 e_N  hn; omega
    | succ nn ih =>
      intro i N hk0 hk1 e_N  hn
      have hn2 := hnI.2
      refine a_iload_n (kJ7_fill_53178.at 5 rfl) 2 rfl ?_
      refine a_iload_n (kJ7_fill_53178.at 6 rfl) 3 rfl ?_
      refine a_icmpge (tgt := 20) (kJ7_fill_53178.at 7 rfl) (by decide) (fun h7 => ?_) (fun h7 => ?_)
      · subst e_N
        obtain rfl : i = (na : Int) := by omega
        exact kk 
      · refine a_aload_n (kJ7_fill_53178.at 8 rfl) 0 rfl ?_
        refine a_iload_n (kJ7_fill_53178.at 9 rfl) 2 rfl ?_
        refine a_iload_n (kJ7_fill_53178.at 10 rfl) 1 rfl ?_
        refine a_iast (kJ7_fill_53178.at 11 rfl) (hA) (by omega) ?_
        refine a_iinc (ls' := [(0, vR ka), (1, vI v), (2, vI (i + 1)), (3, vI (na : Int))]) (kJ7_fill_53178.at 12 rfl) 2 rfl (by decide) (inr (by omega)) rfl ?_
        refine a_goto (tgt := 5) (kJ7_fill_53178.at 13 rfl) (by decide) ?_
        exact ih ((i + 1)) ((upm N ka i v)) (by omega) (by omega) (by rw [forR_succ hk0, ← e_N] <;> (clear ih kk e_N; rfl)) (by omega)
  exact key (((na : Int)) - (0) + 1 : Int).toNat (0) M (Int.le_refl _) hlohi (forR_nil (Int.le_refl _)).symm  (by omega)
theorem fl_all (M : Mem) (k : Nat) (v : Int) {n : Int} (hn : 0 ≤ n) : (∀ c : Nat, c ≠ k → forR 0 n (flF k v) M c = M c) ∧ (∀ j, forR 0 n (flF k v) M k j = if 0 ≤ j ∧ j < n then v else M k j) := by
  refine forR_inv (fun i (N : Mem) => (∀ c : Nat, c ≠ k → N c = M c) ∧ (∀ j, N k j = if 0 ≤ j ∧ j < i then v else M k j)) hn ⟨fun _ _ => rfl, fun j => by rw [if_neg (by omega)]⟩ (fun i N a b h => ⟨fun c hc => ?_, fun j => ?_⟩)
  · unfold flF
    rw [upm_ne hc]
    exact h.1 c hc
  · unfold flF
    rw [upm_same]
    unfold ups
    by_cases e : j = i
    · rw [if_pos e, if_pos (by omega)]
    · rw [if_neg e, h.2 j]
      by_cases e2 : 0 ≤ j ∧ j < i
      · rw [if_pos e2, if_pos (by omega)]
      · rw [if_neg e2, if_neg (by omega)]
theorem k_fill (G : GT) (M : Mem) (ka na : Nat) (v : Int) (hA : isA ka na) (hn : inI (na : Int)) : AM G yJ7_fill_53178 cJ7_fill_53178 4 none 0 M [vR ka, vI v] (pV fun N => (∀ c : Nat, c ≠ ka → N c = M c) ∧ (∀ j, N ka j = if 0 ≤ j ∧ j < na then v else M ka j)) := by
  refine AM.mk (own := RJ7) rfl ss_J7_fill_53178.1.2.2.2.2.2 (Nat.le_of_ble_eq_true rfl) rfl ?_
  refine a_iconst (kJ7_fill_53178.at 0 rfl) rfl ?_
  refine a_istore_n (ls' := [(0, vR ka), (1, vI v), (2, vI 0)]) (kJ7_fill_53178.at 1 rfl) (by decide) rfl ?_
  refine a_aload_n (kJ7_fill_53178.at 2 rfl) 0 rfl ?_
  refine a_alen (kJ7_fill_53178.at 3 rfl) hA hn ?_
  refine a_istore_n (ls' := [(0, vR ka), (1, vI v), (2, vI 0), (3, vI (na : Int))]) (kJ7_fill_53178.at 4 rfl) (by decide) rfl ?_
  refine l_fill G M ka na v _ hA hn (by omega) ?_
  show AW _ _ _ _ _ _ 20 [(0, vR ka), (1, vI v), (2, vI (na : Int)), (3, vI (na : Int))] [] (forR 0 (na : Int) (flF ka v) M)
  exact a_vret (kJ7_fill_53178.at 14 rfl) (fl_all M ka v (by omega))
noncomputable def bc1 (b : Int) : Int := wI (b - iAnd (iUshr b 1) 1431655765)
noncomputable def bc2 (b : Int) : Int := wI (iAnd b 858993459 + iAnd (iUshr b 2) 858993459)
noncomputable def bc3 (b : Int) : Int := iAnd (wI (b + iUshr b 4)) 252645135
noncomputable def bc4 (b : Int) : Int := wI (b + iUshr b 8)
noncomputable def bc5 (b : Int) : Int := wI (b + iUshr b 16)
noncomputable def bcF (b : Int) : Int := iAnd (bc5 (bc4 (bc3 (bc2 (bc1 b))))) 63
theorem bc_all : ∀ b : Fin 256, bcF (b.val : Int) = popc (b.val : Int) := by decide +kernel
theorem bc_at {b : Int} (h : 0 ≤ b ∧ b ≤ 255) : bcF b = popc b := by
  have e := bc_all ⟨b.toNat, by omega⟩
  simp only [] at e
  rw [show ((b.toNat : Nat) : Int) = b by omega] at e
  exact e
theorem k_bitCount (G : GT) (M : Mem) (b : Int) (hb : 0 ≤ b ∧ b ≤ 255) : AM G yJ6_bitCount_0f7a4 cJ6_bitCount_0f7a4 1 (some .int) 0 M [vI b] (qI (popc b) M) := by
  rw [← bc_at hb]
  refine AM.mk (own := RJ6) rfl ss_J6_bitCount_0f7a4.1.2.2.2.2.2 (Nat.le_of_ble_eq_true rfl) rfl ?_
  refine a_iload_n (kJ6_bitCount_0f7a4.at 0 rfl) 0 rfl ?_
  refine a_iload_n (kJ6_bitCount_0f7a4.at 1 rfl) 0 rfl ?_
  refine a_iconst (kJ6_bitCount_0f7a4.at 2 rfl) rfl ?_
  refine a_iushr (kJ6_bitCount_0f7a4.at 3 rfl) ?_
  refine a_ldcw (kJ6_bitCount_0f7a4.at 4 rfl) cn_J6_265 (1431655765) rfl rfl ?_
  refine a_iand (kJ6_bitCount_0f7a4.at 5 rfl) ?_
  refine a_isubW (kJ6_bitCount_0f7a4.at 6 rfl) ?_
  refine a_istore_n (ls' := [(0, vI (wI (b - (iAnd (iUshr b 1) 1431655765))))]) (kJ6_bitCount_0f7a4.at 7 rfl) (by decide) rfl ?_
  refine a_iload_n (kJ6_bitCount_0f7a4.at 8 rfl) 0 rfl ?_
  refine a_ldcw (kJ6_bitCount_0f7a4.at 9 rfl) cn_J6_266 (858993459) rfl rfl ?_
  refine a_iand (kJ6_bitCount_0f7a4.at 10 rfl) ?_
  refine a_iload_n (kJ6_bitCount_0f7a4.at 11 rfl) 0 rfl ?_
  refine a_iconst (kJ6_bitCount_0f7a4.at 12 rfl) rfl ?_
  refine a_iushr (kJ6_bitCount_0f7a4.at 13 rfl) ?_
  refine a_ldcw (kJ6_bitCount_0f7a4.at 14 rfl) cn_J6_266 (858993459) rfl rfl ?_
  refine a_iand (kJ6_bitCount_0f7a4.at 15 rfl) ?_
  refine a_iaddW (kJ6_bitCount_0f7a4.at 16 rfl) ?_
  refine a_istore_n (ls' := [(0, vI (wI ((iAnd (wI (b - (iAnd (iUshr b 1) 1431655765))) 858993459) + (iAnd (iUshr (wI (b - (iAnd (iUshr b 1) 1431655765))) 2) 858993459))))]) (kJ6_bitCount_0f7a4.at 17 rfl) (by decide) rfl ?_
  refine a_iload_n (kJ6_bitCount_0f7a4.at 18 rfl) 0 rfl ?_
  refine a_iload_n (kJ6_bitCount_0f7a4.at 19 rfl) 0 rfl ?_
  refine a_iconst (kJ6_bitCount_0f7a4.at 20 rfl) rfl ?_
  refine a_iushr (kJ6_bitCount_0f7a4.at 21 rfl) ?_
  refine a_iaddW (kJ6_bitCount_0f7a4.at 22 rfl) ?_
  refine a_ldcw (kJ6_bitCount_0f7a4.at 23 rfl) cn_J6_267 (252645135) rfl rfl ?_
  refine a_iand (kJ6_bitCount_0f7a4.at 24 rfl) ?_
  refine a_istore_n (ls' := [(0, vI (iAnd (wI ((wI ((iAnd (wI (b - (iAnd (iUshr b 1) 1431655765))) 858993459) + (iAnd (iUshr (wI (b - (iAnd (iUshr b 1) 1431655765))) 2) 858993459))) + (iUshr (wI ((iAnd (wI (b - (iAnd (iUshr b 1) 1431655765))) 858993459) + (iAnd (iUshr (wI (b - (iAnd (iUshr b 1) 1431655765))) 2) 858993459))) 4))) 252645135))]) (kJ6_bitCount_0f7a4.at 25 rfl) (by decide) rfl ?_
  refine a_iload_n (kJ6_bitCount_0f7a4.at 26 rfl) 0 rfl ?_
  refine a_iload_n (kJ6_bitCount_0f7a4.at 27 rfl) 0 rfl ?_
  refine a_bipush (kJ6_bitCount_0f7a4.at 28 rfl) rfl rfl ?_
  refine a_iushr (kJ6_bitCount_0f7a4.at 29 rfl) ?_
  refine a_iaddW (kJ6_bitCount_0f7a4.at 30 rfl) ?_
  refine a_istore_n (ls' := [(0, vI (wI ((iAnd (wI ((wI ((iAnd (wI (b - (iAnd (iUshr b 1) 1431655765))) 858993459) + (iAnd (iUshr (wI (b - (iAnd (iUshr b 1) 1431655765))) 2) 858993459))) + (iUshr (wI ((iAnd (wI (b - (iAnd (iUshr b 1) 1431655765))) 858993459) + (iAnd (iUshr (wI (b - (iAnd (iUshr b 1) 1431655765))) 2) 858993459))) 4))) 252645135) + (iUshr (iAnd (wI ((wI ((iAnd (wI (b - (iAnd (iUshr b 1) 1431655765))) 858993459) + (iAnd (iUshr (wI (b - (iAnd (iUshr b 1) 1431655765))) 2) 858993459))) + (iUshr (wI ((iAnd (wI (b - (iAnd (iUshr b 1) 1431655765))) 858993459) + (iAnd (iUshr (wI (b - (iAnd (iUshr b 1) 1431655765))) 2) 858993459))) 4))) 252645135) 8))))]) (kJ6_bitCount_0f7a4.at 31 rfl) (by decide) rfl ?_
  refine a_iload_n (kJ6_bitCount_0f7a4.at 32 rfl) 0 rfl ?_
  refine a_iload_n (kJ6_bitCount_0f7a4.at 33 rfl) 0 rfl ?_
  refine a_bipush (kJ6_bitCount_0f7a4.at 34 rfl) rfl rfl ?_
  refine a_iushr (kJ6_bitCount_0f7a4.at 35 rfl) ?_
  refine a_iaddW (kJ6_bitCount_0f7a4.at 36 rfl) ?_
  refine a_istore_n (ls' := [(0, vI (wI ((wI ((iAnd (wI ((wI ((iAnd (wI (b - (iAnd (iUshr b 1) 1431655765))) 858993459) + (iAnd (iUshr (wI (b - (iAnd (iUshr b 1) 1431655765))) 2) 858993459))) + (iUshr (wI ((iAnd (wI (b - (iAnd (iUshr b 1) 1431655765))) 858993459) + (iAnd (iUshr (wI (b - (iAnd (iUshr b 1) 1431655765))) 2) 858993459))) 4))) 252645135) + (iUshr (iAnd (wI ((wI ((iAnd (wI (b - (iAnd (iUshr b 1) 1431655765))) 858993459) + (iAnd (iUshr (wI (b - (iAnd (iUshr b 1) 1431655765))) 2) 858993459))) + (iUshr (wI ((iAnd (wI (b - (iAnd (iUshr b 1) 1431655765))) 858993459) + (iAnd (iUshr (wI (b - (iAnd (iUshr b 1) 1431655765))) 2) 858993459))) 4))) 252645135) 8))) + (iUshr (wI ((iAnd (wI ((wI ((iAnd (wI (b - (iAnd (iUshr b 1) 1431655765))) 858993459) + (iAnd (iUshr (wI (b - (iAnd (iUshr b 1) 1431655765))) 2) 858993459))) + (iUshr (wI ((iAnd (wI (b - (iAnd (iUshr b 1) 1431655765))) 858993459) + (iAnd (iUshr (wI (b - (iAnd (iUshr b 1) 1431655765))) 2) 858993459))) 4))) 252645135) + (iUshr (iAnd (wI ((wI ((iAnd (wI (b - (iAnd (iUshr b 1) 1431655765))) 858993459) + (iAnd (iUshr (wI (b - (iAnd (iUshr b 1) 1431655765))) 2) 858993459))) + (iUshr (wI ((iAnd (wI (b - (iAnd (iUshr b 1) 1431655765))) 858993459) + (iAnd (iUshr (wI (b - (iAnd (iUshr b 1) 1431655765))) 2) 858993459))) 4))) 252645135) 8))) 16))))]) (kJ6_bitCount_0f7a4.at 37 rfl) (by decide) rfl ?_
  refine a_iload_n (kJ6_bitCount_0f7a4.at 38 rfl) 0 rfl ?_
  refine a_bipush (kJ6_bitCount_0f7a4.at 39 rfl) rfl rfl ?_
  refine a_iand (kJ6_bitCount_0f7a4.at 40 rfl) ?_
  exact a_iretE (kJ6_bitCount_0f7a4.at 41 rfl) (⟨rfl, rfl⟩)
theorem isIn_z {b k : Int} (hb : 0 ≤ b ∧ b ≤ 2147483647) (hk : 0 ≤ k ∧ k ≤ 31) : iAnd (iShr b k) 1 = 0 ↔ ¬ isIn b k = true := by
  obtain ⟨n, rfl⟩ := nat_of hb.1
  obtain ⟨j, rfl⟩ := nat_of hk.1
  have h1 : n >>> j ≤ n := Nat.shiftRight_le n _
  rw [isIn_nat (by omega) (by omega), iShr_nat (by omega) (by omega), show (1 : Int) = ((1 : Nat) : Int) by rfl, iAnd_nat (by omega) (by omega)]
  rw [Nat.and_one_is_mod]
  simp only [Nat.testBit, Nat.and_comm 1, Nat.and_one_is_mod]
  have : (n >>> j) % 2 < 2 := Nat.mod_lt _ (by decide)
  generalize (n >>> j) % 2 = z at *
  rcases (show z = 0 ∨ z = 1 by omega) with rfl | rfl <;> simp
theorem k_hasBit (G : GT) (M : Mem) (b k : Int) (hb : 0 ≤ b ∧ b ≤ 2147483647) (hk : 0 ≤ k ∧ k ≤ 31) : AM G yX5_hasBit cX5_hasBit 2 (some .boolean) 0 M [vI b, vI k] (qI (bI (isIn b k = true)) M) := by
  refine AM.mk (own := RX5) rfl ss_X5_hasBit.1.2.2.2.2.2 (Nat.le_of_ble_eq_true rfl) rfl ?_
  have hz := isIn_z hb hk
  refine a_iload_n (kX5_hasBit.at 0 rfl) 0 rfl ?_
  refine a_iload_n (kX5_hasBit.at 1 rfl) 1 rfl ?_
  refine a_ishr (kX5_hasBit.at 2 rfl) ?_
  refine a_iconst (kX5_hasBit.at 3 rfl) rfl ?_
  refine a_iand (kX5_hasBit.at 4 rfl) ?_
  refine a_ifeq (tgt := 12) (kX5_hasBit.at 5 rfl) (by decide) (fun h5 => ?_) (fun h5 => ?_)
  · refine a_iconst (kX5_hasBit.at 8 rfl) rfl ?_
    exact a_zretE (kX5_hasBit.at 9 rfl) (by first | exact Or.inl rfl | exact Or.inr rfl | omega) (⟨by first | exact (bI_0 (hz.mp h5)).symm | exact (bI_1 (Classical.byContradiction fun e => h5 (hz.mpr e))).symm, rfl⟩)
  · refine a_iconst (kX5_hasBit.at 6 rfl) rfl ?_
    refine a_goto (tgt := 13) (kX5_hasBit.at 7 rfl) (by decide) ?_
    exact a_zretE (kX5_hasBit.at 9 rfl) (by first | exact Or.inl rfl | exact Or.inr rfl | omega) (⟨by first | exact (bI_0 (hz.mp h5)).symm | exact (bI_1 (Classical.byContradiction fun e => h5 (hz.mpr e))).symm, rfl⟩)
theorem k_isBelow (G : GT) (M : Mem) (a b : Int) : AM G yX5_isBelow cX5_isBelow 2 (some .boolean) 0 M [vI a, vI b] (qI (bI (0 ≤ a ∧ a < b)) M) := by
  refine AM.mk (own := RX5) rfl ss_X5_isBelow.1.2.2.2.2.2 (Nat.le_of_ble_eq_true rfl) rfl ?_
  refine a_iload_n (kX5_isBelow.at 0 rfl) 0 rfl ?_
  refine a_iflt (tgt := 13) (kX5_isBelow.at 1 rfl) (by decide) (fun h1 => ?_) (fun h1 => ?_)
  · refine a_iconst (kX5_isBelow.at 7 rfl) rfl ?_
    exact a_zretE (kX5_isBelow.at 8 rfl) (by first | exact Or.inl rfl | exact Or.inr rfl | omega) (⟨by first | exact (bI_1 (by omega)).symm | exact (bI_0 (by omega)).symm, rfl⟩)
  · refine a_iload_n (kX5_isBelow.at 2 rfl) 0 rfl ?_
    refine a_iload_n (kX5_isBelow.at 3 rfl) 1 rfl ?_
    refine a_icmpge (tgt := 13) (kX5_isBelow.at 4 rfl) (by decide) (fun h6 => ?_) (fun h6 => ?_)
    · refine a_iconst (kX5_isBelow.at 7 rfl) rfl ?_
      exact a_zretE (kX5_isBelow.at 8 rfl) (by first | exact Or.inl rfl | exact Or.inr rfl | omega) (⟨by first | exact (bI_1 (by omega)).symm | exact (bI_0 (by omega)).symm, rfl⟩)
    · refine a_iconst (kX5_isBelow.at 5 rfl) rfl ?_
      refine a_goto (tgt := 14) (kX5_isBelow.at 6 rfl) (by decide) ?_
      exact a_zretE (kX5_isBelow.at 8 rfl) (by first | exact Or.inl rfl | exact Or.inr rfl | omega) (⟨by first | exact (bI_1 (by omega)).symm | exact (bI_0 (by omega)).symm, rfl⟩)
theorem k_isPerson (G : GT) (M : Mem) (k : Int) : AM G yX5_isPerson cX5_isPerson 2 (some .boolean) 1 M [vR 0, vI k] (qI (bI (0 ≤ k ∧ k < M 1 5)) M) := by
  refine AM.mk (own := RX5) rfl sv_X5_isPerson.1.2.2.2.2.2 (Nat.le_of_ble_eq_true rfl) rfl ?_
  refine a_iload_n (kX5_isPerson.at 0 rfl) 1 rfl ?_
  refine a_aload_n (kX5_isPerson.at 1 rfl) 0 rfl ?_
  refine a_getR (kX5_isPerson.at 2 rfl) fg_X5_10 ir_0_0 ?_
  refine a_getI (x := M 1 5) (kX5_isPerson.at 3 rfl) fg_X5_224 ii_1_5 (rfl) ?_
  refine AW.callS (as := [vI k, vI (M 1 5)]) (st := []) (kX5_isPerson.at 4 rfl) ml_X5_74 ss_X5_isBelow ⟨Nat.le_of_ble_eq_true rfl, Nat.le_of_ble_eq_true rfl⟩ ⟨Nat.le_refl _, Nat.le_refl _⟩ rfl rfl (Nat.le_of_ble_eq_true rfl) (k_isBelow G M k (M 1 5)) (kIE ?_)
  exact a_zretE (kX5_isPerson.at 5 rfl) (bI_r _) (⟨rfl, rfl⟩)
theorem k_mayBeEvent (G : GT) (M : Mem) (a b c : Int) : AM G yX5_mayBeEvent cX5_mayBeEvent 3 (some .boolean) 1 M [vI a, vI b, vI c] (qI (bI ((0 ≤ a ∧ a < 4) ∧ (0 ≤ b ∧ b < 16) ∧ (0 ≤ c ∧ c < 8))) M) := by
  refine AM.mk (own := RX5) rfl ss_X5_mayBeEvent.1.2.2.2.2.2 (Nat.le_of_ble_eq_true rfl) rfl ?_
  refine a_iload_n (kX5_mayBeEvent.at 0 rfl) 0 rfl ?_
  refine a_iconst (kX5_mayBeEvent.at 1 rfl) rfl ?_
  refine AW.callS (as := [vI a, vI 4]) (st := []) (kX5_mayBeEvent.at 2 rfl) ml_X5_74 ss_X5_isBelow ⟨Nat.le_of_ble_eq_true rfl, Nat.le_of_ble_eq_true rfl⟩ ⟨Nat.le_refl _, Nat.le_refl _⟩ rfl rfl (Nat.le_of_ble_eq_true rfl) (k_isBelow G M a 4) (kIE ?_)
  refine a_ifeqB (tgt := 30) (kX5_mayBeEvent.at 3 rfl) (by decide) (fun h5 => ?_) (fun h5 => ?_)
  · refine a_iconst (kX5_mayBeEvent.at 14 rfl) rfl ?_
    exact a_zretE (kX5_mayBeEvent.at 15 rfl) (by first | exact Or.inl rfl | exact Or.inr rfl | omega) (⟨by first | exact (bI_1 (by omega)).symm | exact (bI_0 (by omega)).symm, rfl⟩)
  · refine a_iload_n (kX5_mayBeEvent.at 4 rfl) 1 rfl ?_
    refine a_bipush (kX5_mayBeEvent.at 5 rfl) rfl rfl ?_
    refine AW.callS (as := [vI b, vI 16]) (st := []) (kX5_mayBeEvent.at 6 rfl) ml_X5_74 ss_X5_isBelow ⟨Nat.le_of_ble_eq_true rfl, Nat.le_of_ble_eq_true rfl⟩ ⟨Nat.le_refl _, Nat.le_refl _⟩ rfl rfl (Nat.le_of_ble_eq_true rfl) (k_isBelow G M b 16) (kIE ?_)
    refine a_ifeqB (tgt := 30) (kX5_mayBeEvent.at 7 rfl) (by decide) (fun h14 => ?_) (fun h14 => ?_)
    · refine a_iconst (kX5_mayBeEvent.at 14 rfl) rfl ?_
      exact a_zretE (kX5_mayBeEvent.at 15 rfl) (by first | exact Or.inl rfl | exact Or.inr rfl | omega) (⟨by first | exact (bI_1 (by omega)).symm | exact (bI_0 (by omega)).symm, rfl⟩)
    · refine a_iload_n (kX5_mayBeEvent.at 8 rfl) 2 rfl ?_
      refine a_bipush (kX5_mayBeEvent.at 9 rfl) rfl rfl ?_
      refine AW.callS (as := [vI c, vI 8]) (st := []) (kX5_mayBeEvent.at 10 rfl) ml_X5_74 ss_X5_isBelow ⟨Nat.le_of_ble_eq_true rfl, Nat.le_of_ble_eq_true rfl⟩ ⟨Nat.le_refl _, Nat.le_refl _⟩ rfl rfl (Nat.le_of_ble_eq_true rfl) (k_isBelow G M c 8) (kIE ?_)
      refine a_ifeqB (tgt := 30) (kX5_mayBeEvent.at 11 rfl) (by decide) (fun h23 => ?_) (fun h23 => ?_)
      · refine a_iconst (kX5_mayBeEvent.at 14 rfl) rfl ?_
        exact a_zretE (kX5_mayBeEvent.at 15 rfl) (by first | exact Or.inl rfl | exact Or.inr rfl | omega) (⟨by first | exact (bI_1 (by omega)).symm | exact (bI_0 (by omega)).symm, rfl⟩)
      · refine a_iconst (kX5_mayBeEvent.at 12 rfl) rfl ?_
        refine a_goto (tgt := 31) (kX5_mayBeEvent.at 13 rfl) (by decide) ?_
        exact a_zretE (kX5_mayBeEvent.at 15 rfl) (by first | exact Or.inl rfl | exact Or.inr rfl | omega) (⟨by first | exact (bI_1 (by omega)).symm | exact (bI_0 (by omega)).symm, rfl⟩)
noncomputable def powF (b : Int) : Int → Int → Int := fun _ p => wL (p * b)
set_option maxHeartbeats 4000000 in
set_option maxRecDepth 100000 in
theorem l_power (G : GT) (M : Mem) (b e : Int) (X : XT) (hE : inI e) (hlohi : (0 : Int) ≤ e) (kk : AW G RX5 cX5_power 6 (some .long) X 21 [(0, vL b), (2, vI e), (3, vL (forR 0 e (powF b) 1)), (5, vI e)] [] M) : AW G RX5 cX5_power 6 (some .long) X 5 [(0, vL b), (2, vI e), (3, vL 1), (5, vI 0)] [] M := by
  have key : ∀ (nn : Nat) (i : Int) (p : Int), (0 : Int) ≤ i → i ≤ e → p = forR 0 i (powF b) 1 → e - i < nn → AW G RX5 cX5_power 6 (some .long) X 5 [(0, vL b), (2, vI e), (3, vL p), (5, vI i)] [] M := by
    intro nn
    induction nn with
    | zero => intro i p hk0 hk1 e_p  hn; omega
    | succ nn ih =>
      intro i p hk0 hk1 e_p  hn
      have he : e ≤ 2147483647 := hE.2
      refine a_iload (kX5_power.at 4 rfl) 3 rfl ?_
      refine a_iload_n (kX5_power.at 5 rfl) 1 rfl ?_
      refine a_icmpge (tgt := 21) (kX5_power.at 6 rfl) (by decide) (fun h8 => ?_) (fun h8 => ?_)
      · subst e_p
        obtain rfl : i = e := by omega
        exact kk 
      · refine a_lload_n (kX5_power.at 7 rfl) 2 rfl ?_
        refine a_lload_n (kX5_power.at 8 rfl) 0 rfl ?_
        refine a_lmul (kX5_power.at 9 rfl) ?_
        refine a_lstore_n (ls' := [(0, vL b), (2, vI e), (3, vL (wL (p * b))), (5, vI i)]) (kX5_power.at 10 rfl) (by decide) rfl ?_
        refine a_iinc (ls' := [(0, vL b), (2, vI e), (3, vL (wL (p * b))), (5, vI (i + 1))]) (kX5_power.at 11 rfl) 3 rfl (by decide) (inr (by omega)) rfl ?_
        refine a_goto (tgt := 5) (kX5_power.at 12 rfl) (by decide) ?_
        exact ih ((i + 1)) ((wL (p * b))) (by omega) (by omega) (by rw [forR_succ hk0, ← e_p] <;> (clear ih kk e_p; rfl)) (by omega)
  exact key ((e) - (0) + 1 : Int).toNat (0) 1 (Int.le_refl _) hlohi (forR_nil (Int.le_refl _)).symm  (by omega)
theorem k_power (G : GT) (M : Mem) (b e : Int) (he : 0 ≤ e ∧ e ≤ 100) : AM G yX5_power cX5_power 6 (some .long) 0 M [vL b, vI e] (qL (forR 0 e (powF b) 1) M) := by
  refine AM.mk (own := RX5) rfl ss_X5_power.1.2.2.2.2.2 (Nat.le_of_ble_eq_true rfl) rfl ?_
  refine a_lconst (kX5_power.at 0 rfl) 1 rfl rfl ?_
  refine a_lstore_n (ls' := [(0, vL b), (2, vI e), (3, vL 1)]) (kX5_power.at 1 rfl) (by decide) rfl ?_
  refine a_iconst (kX5_power.at 2 rfl) rfl ?_
  refine a_istore (ls' := [(0, vL b), (2, vI e), (3, vL 1), (5, vI 0)]) (kX5_power.at 3 rfl) (by decide) rfl ?_
  refine l_power G M b e _ ⟨by omega, by omega⟩ (by omega) ?_
  show AW _ _ _ _ _ _ 21 [(0, vL b), (2, vI e), (3, vL (forR 0 e (powF b) 1)), (5, vI e)] [] M
  refine a_lload_n (kX5_power.at 13 rfl) 2 rfl ?_
  exact a_lretE (kX5_power.at 14 rfl) (⟨rfl, rfl⟩)
theorem k_nextSeed (G : GT) (M : Mem) (s : Int) : AM G yX5_nextSeed cX5_nextSeed 1 (some .int) 0 M [vI s] (qI (nxS s) M) := by
  refine AM.mk (own := RX5) rfl ss_X5_nextSeed.1.2.2.2.2.2 (Nat.le_of_ble_eq_true rfl) rfl ?_
  refine a_ldcw (kX5_nextSeed.at 0 rfl) cn_X5_330 (1103515245) rfl rfl ?_
  refine a_iload_n (kX5_nextSeed.at 1 rfl) 0 rfl ?_
  refine a_imulW (kX5_nextSeed.at 2 rfl) ?_
  refine a_sipush (kX5_nextSeed.at 3 rfl) rfl rfl ?_
  refine a_iaddW (kX5_nextSeed.at 4 rfl) ?_
  exact a_iretE (kX5_nextSeed.at 5 rfl) (⟨rfl, rfl⟩)
