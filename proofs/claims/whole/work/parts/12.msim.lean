/-! ===== the reference: one quarter ===== -/
/-- only the cells of a course differ -/
def Fr (M N : Mem) : Prop := ∀ (c : Nat) (j : Int), ¬ (52 ≤ c ∧ c ≤ 59) → ¬ (c = 44 ∧ 23 ≤ j ∧ j ≤ 27) → N c j = M c j
theorem Fr.refl (M : Mem) : Fr M M := fun _ _ _ _ => rfl
theorem Fr.trans {M N K : Mem} (h1 : Fr M N) (h2 : Fr N K) : Fr M K := fun c j a b => (h2 c j a b).trans (h1 c j a b)
theorem Fr.up {M N : Mem} (h : Fr M N) {c : Nat} {j v : Int} (hc : (52 ≤ c ∧ c ≤ 59) ∨ (c = 44 ∧ 23 ≤ j ∧ j ≤ 27)) : Fr M (upm N c j v) := by
  intro c' j' a b
  rw [← h c' j' a b]
  by_cases e : c' = c
  · subst e
    rw [upm_same, ups_ne (by omega)]
  · rw [upm_ne e]
/-- ranges, with which nothing overflows -/
def RG (M : Mem) (B : Int) : Prop := (0 ≤ M 44 7 ∧ M 44 7 ≤ 8) ∧ (∀ k, 0 ≤ k → k < M 44 7 → (0 ≤ M 52 k ∧ M 52 k ≤ 9) ∧ (0 ≤ M 54 k ∧ M 54 k ≤ B) ∧ (0 ≤ M 55 k ∧ M 55 k ≤ B)) ∧ (0 ≤ M 44 24 ∧ M 44 24 ≤ B) ∧ (0 ≤ M 44 25 ∧ M 44 25 ≤ 9 * B)
theorem RG.mono {M : Mem} {B C : Int} (h : RG M B) (hBC : B ≤ C) : RG M C := ⟨h.1, fun k h0 h1 => by have := h.2.1 k h0 h1; omega, by have := h.2.2; omega⟩
def happens (M : Mem) (kind k : Int) : Mem := if kind = 3 then upm M 44 23 1 else if 0 ≤ k ∧ k ≤ M 44 7 - 1 then upm M 53 k (iXor (M 53 k) (iShl 1 kind)) else M
theorem c_happens (G : GT) (M : Mem) (kind k : Int) (hp : 0 ≤ M 44 7 ∧ M 44 7 ≤ 8) : AM G yX6_happens cX6_happens 3 none 2 M [vR 44, vI kind, vI k] (qV (happens M kind k)) := by
  refine AM.mk (own := RX6) rfl sv_X6_happens.1.2.2.2.2.2 (Nat.le_of_ble_eq_true rfl) rfl ?_
  refine a_iload_n (kX6_happens.at 0 rfl) 1 rfl ?_
  refine a_iconst (kX6_happens.at 1 rfl) rfl ?_
  refine a_icmpne (tgt := 13) (kX6_happens.at 2 rfl) (by decide) (fun h2 => ?_) (fun h2 => ?_)
  · refine a_aload_n (kX6_happens.at 7 rfl) 0 rfl ?_
    refine a_iload_n (kX6_happens.at 8 rfl) 2 rfl ?_
    refine AW.callV (as := [vI k]) (st := []) (kX6_happens.at 9 rfl) ml_X6_125 sv_X6_isPerson (k := 44) (io_44) rfl rfl ⟨Nat.le_of_ble_eq_true rfl, Nat.le_of_ble_eq_true rfl⟩ ⟨Nat.le_refl _, Nat.le_refl _⟩ rfl rfl (Nat.le_of_ble_eq_true rfl) (c_isPerson G M k (by omega)) (kIE ?_)
    refine a_ifeqB (tgt := 33) (kX6_happens.at 10 rfl) (by decide) (fun h18 => ?_) (fun h18 => ?_)
    · exact a_vretE (kX6_happens.at 21 rfl) (by simp [happens, *])
    · refine a_aload_n (kX6_happens.at 11 rfl) 0 rfl ?_
      refine a_getR (kX6_happens.at 12 rfl) fg_X6_34 ir_44_16 ?_
      refine a_iload_n (kX6_happens.at 13 rfl) 2 rfl ?_
      refine a_dup2 (kX6_happens.at 14 rfl) rfl rfl ?_
      refine a_iald (x := M 53 k) (kX6_happens.at 15 rfl) (ia_53) (by omega) (rfl) ?_
      refine a_iconst (kX6_happens.at 16 rfl) rfl ?_
      refine a_iload_n (kX6_happens.at 17 rfl) 1 rfl ?_
      refine a_ishl (kX6_happens.at 18 rfl) ?_
      refine a_ixor (kX6_happens.at 19 rfl) ?_
      refine a_iast (kX6_happens.at 20 rfl) (ia_53) (by omega) ?_
      exact a_vretE (kX6_happens.at 21 rfl) (by simp [happens, *])
  · refine a_aload_n (kX6_happens.at 3 rfl) 0 rfl ?_
    refine a_iconst (kX6_happens.at 4 rfl) rfl ?_
    refine a_putZ (j := 23) (kX6_happens.at 5 rfl) fp_X6_142 (ii_44_23) rfl (by omega) ?_
    refine a_goto (tgt := 33) (kX6_happens.at 6 rfl) (by decide) ?_
    exact a_vretE (kX6_happens.at 21 rfl) (by simp [happens, *])
theorem Fr_happens (M : Mem) (kind k : Int) : Fr M (happens M kind k) := by
  unfold happens
  split
  · exact (Fr.refl M).up (by omega)
  · split
    · exact (Fr.refl M).up (by omega)
    · exact Fr.refl M
theorem RG_happens {M : Mem} {B : Int} (h : RG M B) (kind k : Int) : RG (happens M kind k) B := by
  unfold happens
  split
  · exact h
  · split
    · exact h
    · exact h
def agree (M : Mem) (a b : Int) : Bool := decide (M 50 (3 * a) ≠ 2 ∧ M 50 (3 * b) ≠ 2 ∧ M 53 a = M 53 b)
theorem c_agree (G : GT) (M : Mem) (a b : Int) (ha : 0 ≤ a ∧ a ≤ 7) (hb : 0 ≤ b ∧ b ≤ 7) : AM G yX6_agree cX6_agree 3 (some .boolean) 0 M [vR 44, vI a, vI b] (qI (bI (agree M a b = true)) M) := by
  refine AM.mk (own := RX6) rfl sv_X6_agree.1.2.2.2.2.2 (Nat.le_of_ble_eq_true rfl) rfl ?_
  refine a_aload_n (kX6_agree.at 0 rfl) 0 rfl ?_
  refine a_getR (kX6_agree.at 1 rfl) fg_X6_25 ir_44_8 ?_
  refine a_iconst (kX6_agree.at 2 rfl) rfl ?_
  refine a_iload_n (kX6_agree.at 3 rfl) 1 rfl ?_
  refine a_imul (kX6_agree.at 4 rfl) (inr (by omega)) ?_
  refine a_iald (x := M 50 (3 * a)) (kX6_agree.at 5 rfl) (ia_50) (by omega) (rfl) ?_
  refine a_iconst (kX6_agree.at 6 rfl) rfl ?_
  refine a_icmpeq (tgt := 43) (kX6_agree.at 7 rfl) (by decide) (fun h9 => ?_) (fun h9 => ?_)
  · refine a_iconst (kX6_agree.at 27 rfl) rfl ?_
    exact a_zretE (kX6_agree.at 28 rfl) (by first | exact Or.inl rfl | exact Or.inr rfl | omega) (⟨by simp [bI, agree, *], rfl⟩)
  · refine a_aload_n (kX6_agree.at 8 rfl) 0 rfl ?_
    refine a_getR (kX6_agree.at 9 rfl) fg_X6_25 ir_44_8 ?_
    refine a_iconst (kX6_agree.at 10 rfl) rfl ?_
    refine a_iload_n (kX6_agree.at 11 rfl) 2 rfl ?_
    refine a_imul (kX6_agree.at 12 rfl) (inr (by omega)) ?_
    refine a_iald (x := M 50 (3 * b)) (kX6_agree.at 13 rfl) (ia_50) (by omega) (rfl) ?_
    refine a_iconst (kX6_agree.at 14 rfl) rfl ?_
    refine a_icmpeq (tgt := 43) (kX6_agree.at 15 rfl) (by decide) (fun h21 => ?_) (fun h21 => ?_)
    · refine a_iconst (kX6_agree.at 27 rfl) rfl ?_
      exact a_zretE (kX6_agree.at 28 rfl) (by first | exact Or.inl rfl | exact Or.inr rfl | omega) (⟨by simp [bI, agree, *], rfl⟩)
    · refine a_aload_n (kX6_agree.at 16 rfl) 0 rfl ?_
      refine a_getR (kX6_agree.at 17 rfl) fg_X6_34 ir_44_16 ?_
      refine a_iload_n (kX6_agree.at 18 rfl) 1 rfl ?_
      refine a_iald (x := M 53 a) (kX6_agree.at 19 rfl) (ia_53) (by omega) (rfl) ?_
      refine a_aload_n (kX6_agree.at 20 rfl) 0 rfl ?_
      refine a_getR (kX6_agree.at 21 rfl) fg_X6_34 ir_44_16 ?_
      refine a_iload_n (kX6_agree.at 22 rfl) 2 rfl ?_
      refine a_iald (x := M 53 b) (kX6_agree.at 23 rfl) (ia_53) (by omega) (rfl) ?_
      refine a_icmpne (tgt := 43) (kX6_agree.at 24 rfl) (by decide) (fun h36 => ?_) (fun h36 => ?_)
      · refine a_iconst (kX6_agree.at 27 rfl) rfl ?_
        exact a_zretE (kX6_agree.at 28 rfl) (by first | exact Or.inl rfl | exact Or.inr rfl | omega) (⟨by simp [bI, agree, *], rfl⟩)
      · refine a_iconst (kX6_agree.at 25 rfl) rfl ?_
        refine a_goto (tgt := 44) (kX6_agree.at 26 rfl) (by decide) ?_
        exact a_zretE (kX6_agree.at 28 rfl) (by first | exact Or.inl rfl | exact Or.inr rfl | omega) (⟨by simp [bI, agree, *], rfl⟩)
def isOther (M : Mem) (k w : Int) : Bool := decide (w ≠ -1 ∧ M 50 (3 * w) ≠ 2 ∧ M 53 w ≠ M 53 k)
theorem c_isOther (G : GT) (M : Mem) (k w : Int) (hk : 0 ≤ k ∧ k ≤ 7) (hw : -1 ≤ w ∧ w ≤ 7) : AM G yX6_isOther cX6_isOther 3 (some .boolean) 0 M [vR 44, vI k, vI w] (qI (bI (isOther M k w = true)) M) := by
  refine AM.mk (own := RX6) rfl sv_X6_isOther.1.2.2.2.2.2 (Nat.le_of_ble_eq_true rfl) rfl ?_
  refine a_iload_n (kX6_isOther.at 0 rfl) 2 rfl ?_
  refine a_iconst (kX6_isOther.at 1 rfl) rfl ?_
  refine a_icmpeq (tgt := 36) (kX6_isOther.at 2 rfl) (by decide) (fun h2 => ?_) (fun h2 => ?_)
  · refine a_iconst (kX6_isOther.at 22 rfl) rfl ?_
    exact a_zretE (kX6_isOther.at 23 rfl) (by first | exact Or.inl rfl | exact Or.inr rfl | omega) (⟨by simp [bI, isOther, *], rfl⟩)
  · refine a_aload_n (kX6_isOther.at 3 rfl) 0 rfl ?_
    refine a_getR (kX6_isOther.at 4 rfl) fg_X6_25 ir_44_8 ?_
    refine a_iconst (kX6_isOther.at 5 rfl) rfl ?_
    refine a_iload_n (kX6_isOther.at 6 rfl) 2 rfl ?_
    refine a_imul (kX6_isOther.at 7 rfl) (inr (by omega)) ?_
    refine a_iald (x := M 50 (3 * w)) (kX6_isOther.at 8 rfl) (ia_50) (by omega) (rfl) ?_
    refine a_iconst (kX6_isOther.at 9 rfl) rfl ?_
    refine a_icmpeq (tgt := 36) (kX6_isOther.at 10 rfl) (by decide) (fun h14 => ?_) (fun h14 => ?_)
    · refine a_iconst (kX6_isOther.at 22 rfl) rfl ?_
      exact a_zretE (kX6_isOther.at 23 rfl) (by first | exact Or.inl rfl | exact Or.inr rfl | omega) (⟨by simp [bI, isOther, *], rfl⟩)
    · refine a_aload_n (kX6_isOther.at 11 rfl) 0 rfl ?_
      refine a_getR (kX6_isOther.at 12 rfl) fg_X6_34 ir_44_16 ?_
      refine a_iload_n (kX6_isOther.at 13 rfl) 2 rfl ?_
      refine a_iald (x := M 53 w) (kX6_isOther.at 14 rfl) (ia_53) (by omega) (rfl) ?_
      refine a_aload_n (kX6_isOther.at 15 rfl) 0 rfl ?_
      refine a_getR (kX6_isOther.at 16 rfl) fg_X6_34 ir_44_16 ?_
      refine a_iload_n (kX6_isOther.at 17 rfl) 1 rfl ?_
      refine a_iald (x := M 53 k) (kX6_isOther.at 18 rfl) (ia_53) (by omega) (rfl) ?_
      refine a_icmpeq (tgt := 36) (kX6_isOther.at 19 rfl) (by decide) (fun h29 => ?_) (fun h29 => ?_)
      · refine a_iconst (kX6_isOther.at 22 rfl) rfl ?_
        exact a_zretE (kX6_isOther.at 23 rfl) (by first | exact Or.inl rfl | exact Or.inr rfl | omega) (⟨by simp [bI, isOther, *], rfl⟩)
      · refine a_iconst (kX6_isOther.at 20 rfl) rfl ?_
        refine a_goto (tgt := 37) (kX6_isOther.at 21 rfl) (by decide) ?_
        exact a_zretE (kX6_isOther.at 23 rfl) (by first | exact Or.inl rfl | exact Or.inr rfl | omega) (⟨by simp [bI, isOther, *], rfl⟩)
def comesTo (M : Mem) (k : Int) : Int := if isOther M k (whoIn M (M 52 k - 1)) = true then whoIn M (M 52 k - 1) else if isOther M k (whoIn M (M 52 k + 1)) = true then whoIn M (M 52 k + 1) else -1
def comesX (M : Mem) (k to : Int) : Mem := upm (upm M 53 k (iXor (M 53 k) (iAnd (iXor (M 53 k) (M 53 to)) (wI (-(iXor (M 53 k) (M 53 to))))))) 55 k (M 55 k + 1)
def comes (M : Mem) (k : Int) : Mem := if comesTo M k = -1 then M else comesX M k (comesTo M k)
theorem isOther_ne {M : Mem} {k w : Int} (h : isOther M k w = true) : ¬ w = -1 := by
  simp only [isOther, decide_eq_true_eq] at h
  exact h.1
theorem c_comes (G : GT) (M : Mem) (k B : Int) (hg : RG M B) (hk : 0 ≤ k ∧ k < M 44 7) (hB : B ≤ 1000000) : AM G yX6_comes cX6_comes 6 none 1 M [vR 44, vI k] (qV (comes M k)) := by
  refine AM.mk (own := RX6) rfl sv_X6_comes.1.2.2.2.2.2 (Nat.le_of_ble_eq_true rfl) rfl ?_
  have hp := hg.1
  have hh := hg.2.1 k hk.1 hk.2
  have w1 := whoIn_r M (M 52 k - 1) hp.1
  have w2 := whoIn_r M (M 52 k + 1) hp.1
  refine a_aload_n (kX6_comes.at 0 rfl) 0 rfl ?_
  refine a_aload_n (kX6_comes.at 1 rfl) 0 rfl ?_
  refine a_getR (kX6_comes.at 2 rfl) fg_X6_31 ir_44_15 ?_
  refine a_iload_n (kX6_comes.at 3 rfl) 1 rfl ?_
  refine a_iald (x := M 52 k) (kX6_comes.at 4 rfl) (ia_52) (by omega) (rfl) ?_
  refine a_iconst (kX6_comes.at 5 rfl) rfl ?_
  refine a_isub (kX6_comes.at 6 rfl) (inr (by omega)) ?_
  refine AW.callV (as := [vI ((M 52 k) - 1)]) (st := []) (kX6_comes.at 7 rfl) ml_X6_146 sv_X6_whoIn (k := 44) (io_44) rfl rfl ⟨Nat.le_of_ble_eq_true rfl, Nat.le_of_ble_eq_true rfl⟩ ⟨Nat.le_refl _, Nat.le_refl _⟩ rfl rfl (Nat.le_of_ble_eq_true rfl) (c_whoIn G M ((M 52 k) - 1) (by omega)) (kIE ?_)
  refine a_istore_n (ls' := [(0, vR 44), (1, vI k), (2, vI (whoIn M ((M 52 k) - 1)))]) (kX6_comes.at 8 rfl) (by decide) rfl ?_
  refine a_aload_n (kX6_comes.at 9 rfl) 0 rfl ?_
  refine a_aload_n (kX6_comes.at 10 rfl) 0 rfl ?_
  refine a_getR (kX6_comes.at 11 rfl) fg_X6_31 ir_44_15 ?_
  refine a_iload_n (kX6_comes.at 12 rfl) 1 rfl ?_
  refine a_iald (x := M 52 k) (kX6_comes.at 13 rfl) (ia_52) (by omega) (rfl) ?_
  refine a_iconst (kX6_comes.at 14 rfl) rfl ?_
  refine a_iadd (kX6_comes.at 15 rfl) (inr (by omega)) ?_
  refine AW.callV (as := [vI ((M 52 k) + 1)]) (st := []) (kX6_comes.at 16 rfl) ml_X6_146 sv_X6_whoIn (k := 44) (io_44) rfl rfl ⟨Nat.le_of_ble_eq_true rfl, Nat.le_of_ble_eq_true rfl⟩ ⟨Nat.le_refl _, Nat.le_refl _⟩ rfl rfl (Nat.le_of_ble_eq_true rfl) (c_whoIn G M ((M 52 k) + 1) (by omega)) (kIE ?_)
  refine a_istore_n (ls' := [(0, vR 44), (1, vI k), (2, vI (whoIn M ((M 52 k) - 1))), (3, vI (whoIn M ((M 52 k) + 1)))]) (kX6_comes.at 17 rfl) (by decide) rfl ?_
  refine a_aload_n (kX6_comes.at 18 rfl) 0 rfl ?_
  refine a_iload_n (kX6_comes.at 19 rfl) 1 rfl ?_
  refine a_iload_n (kX6_comes.at 20 rfl) 2 rfl ?_
  refine AW.callV (as := [vI k, vI (whoIn M ((M 52 k) - 1))]) (st := []) (kX6_comes.at 21 rfl) ml_X6_149 sv_X6_isOther (k := 44) (io_44) rfl rfl ⟨Nat.le_of_ble_eq_true rfl, Nat.le_of_ble_eq_true rfl⟩ ⟨Nat.le_refl _, Nat.le_refl _⟩ rfl rfl (Nat.le_of_ble_eq_true rfl) (c_isOther G M k (whoIn M ((M 52 k) - 1)) (by omega) (by omega)) (kIE ?_)
  refine a_ifeqB (tgt := 39) (kX6_comes.at 22 rfl) (by decide) (fun h32 => ?_) (fun h32 => ?_)
  · refine a_aload_n (kX6_comes.at 25 rfl) 0 rfl ?_
    refine a_iload_n (kX6_comes.at 26 rfl) 1 rfl ?_
    refine a_iload_n (kX6_comes.at 27 rfl) 3 rfl ?_
    refine AW.callV (as := [vI k, vI (whoIn M ((M 52 k) + 1))]) (st := []) (kX6_comes.at 28 rfl) ml_X6_149 sv_X6_isOther (k := 44) (io_44) rfl rfl ⟨Nat.le_of_ble_eq_true rfl, Nat.le_of_ble_eq_true rfl⟩ ⟨Nat.le_refl _, Nat.le_refl _⟩ rfl rfl (Nat.le_of_ble_eq_true rfl) (c_isOther G M k (whoIn M ((M 52 k) + 1)) (by omega) (by omega)) (kIE ?_)
    refine a_ifeqB (tgt := 52) (kX6_comes.at 29 rfl) (by decide) (fun h45 => ?_) (fun h45 => ?_)
    · refine a_iconst (kX6_comes.at 32 rfl) rfl ?_
      refine a_istore (ls' := [(0, vR 44), (1, vI k), (2, vI (whoIn M ((M 52 k) - 1))), (3, vI (whoIn M ((M 52 k) + 1))), (4, vI (-1))]) (kX6_comes.at 33 rfl) (by decide) rfl ?_
      refine a_iload (kX6_comes.at 34 rfl) 4 rfl ?_
      refine a_iconst (kX6_comes.at 35 rfl) rfl ?_
      refine a_icmpeq (tgt := 102) (kX6_comes.at 36 rfl) (by decide) (fun h58 => ?_) (fun h58 => absurd h58 (by decide))
      exact a_vretE (kX6_comes.at 66 rfl) (by first | (exfalso; omega) | simp [comes, comesTo, comesX, *])
    · have hne := isOther_ne h45
      refine a_iload_n (kX6_comes.at 30 rfl) 3 rfl ?_
      refine a_goto (tgt := 53) (kX6_comes.at 31 rfl) (by decide) ?_
      refine a_istore (ls' := [(0, vR 44), (1, vI k), (2, vI (whoIn M ((M 52 k) - 1))), (3, vI (whoIn M ((M 52 k) + 1))), (4, vI (whoIn M ((M 52 k) + 1)))]) (kX6_comes.at 33 rfl) (by decide) rfl ?_
      refine a_iload (kX6_comes.at 34 rfl) 4 rfl ?_
      refine a_iconst (kX6_comes.at 35 rfl) rfl ?_
      refine a_icmpeq (tgt := 102) (kX6_comes.at 36 rfl) (by decide) (fun h58 => ?_) (fun h58 => ?_)
      · exact a_vretE (kX6_comes.at 66 rfl) (by first | (exfalso; omega) | simp [comes, comesTo, comesX, *])
      · refine a_aload_n (kX6_comes.at 37 rfl) 0 rfl ?_
        refine a_getR (kX6_comes.at 38 rfl) fg_X6_34 ir_44_16 ?_
        refine a_iload_n (kX6_comes.at 39 rfl) 1 rfl ?_
        refine a_iald (x := M 53 k) (kX6_comes.at 40 rfl) (ia_53) (by omega) (rfl) ?_
        refine a_aload_n (kX6_comes.at 41 rfl) 0 rfl ?_
        refine a_getR (kX6_comes.at 42 rfl) fg_X6_34 ir_44_16 ?_
        refine a_iload (kX6_comes.at 43 rfl) 4 rfl ?_
        refine a_iald (x := M 53 (whoIn M ((M 52 k) + 1))) (kX6_comes.at 44 rfl) (ia_53) (by omega) (rfl) ?_
        refine a_ixor (kX6_comes.at 45 rfl) ?_
        refine a_istore (ls' := [(0, vR 44), (1, vI k), (2, vI (whoIn M ((M 52 k) - 1))), (3, vI (whoIn M ((M 52 k) + 1))), (4, vI (whoIn M ((M 52 k) + 1))), (5, vI (iXor (M 53 k) (M 53 (whoIn M ((M 52 k) + 1)))))]) (kX6_comes.at 46 rfl) (by decide) rfl ?_
        refine a_aload_n (kX6_comes.at 47 rfl) 0 rfl ?_
        refine a_getR (kX6_comes.at 48 rfl) fg_X6_34 ir_44_16 ?_
        refine a_iload_n (kX6_comes.at 49 rfl) 1 rfl ?_
        refine a_dup2 (kX6_comes.at 50 rfl) rfl rfl ?_
        refine a_iald (x := M 53 k) (kX6_comes.at 51 rfl) (ia_53) (by omega) (rfl) ?_
        refine a_iload (kX6_comes.at 52 rfl) 5 rfl ?_
        refine a_iload (kX6_comes.at 53 rfl) 5 rfl ?_
        refine a_inegW (kX6_comes.at 54 rfl) ?_
        refine a_iand (kX6_comes.at 55 rfl) ?_
        refine a_ixor (kX6_comes.at 56 rfl) ?_
        refine a_iast (kX6_comes.at 57 rfl) (ia_53) (by omega) ?_
        refine a_aload_n (kX6_comes.at 58 rfl) 0 rfl ?_
        refine a_getR (kX6_comes.at 59 rfl) fg_X6_40 ir_44_18 ?_
        refine a_iload_n (kX6_comes.at 60 rfl) 1 rfl ?_
        refine a_dup2 (kX6_comes.at 61 rfl) rfl rfl ?_
        refine a_iald (x := M 55 k) (kX6_comes.at 62 rfl) (ia_55) (by omega) (rd_ne (by decide)) ?_
        refine a_iconst (kX6_comes.at 63 rfl) rfl ?_
        refine a_iadd (kX6_comes.at 64 rfl) (inr (by omega)) ?_
        refine a_iast (kX6_comes.at 65 rfl) (ia_55) (by omega) ?_
        exact a_vretE (kX6_comes.at 66 rfl) (by first | (exfalso; omega) | simp [comes, comesTo, comesX, *])
  · have hne := isOther_ne h32
    refine a_iload_n (kX6_comes.at 23 rfl) 2 rfl ?_
    refine a_goto (tgt := 53) (kX6_comes.at 24 rfl) (by decide) ?_
    refine a_istore (ls' := [(0, vR 44), (1, vI k), (2, vI (whoIn M ((M 52 k) - 1))), (3, vI (whoIn M ((M 52 k) + 1))), (4, vI (whoIn M ((M 52 k) - 1)))]) (kX6_comes.at 33 rfl) (by decide) rfl ?_
    refine a_iload (kX6_comes.at 34 rfl) 4 rfl ?_
    refine a_iconst (kX6_comes.at 35 rfl) rfl ?_
    refine a_icmpeq (tgt := 102) (kX6_comes.at 36 rfl) (by decide) (fun h58 => ?_) (fun h58 => ?_)
    · exact a_vretE (kX6_comes.at 66 rfl) (by first | (exfalso; omega) | simp [comes, comesTo, comesX, *])
    · refine a_aload_n (kX6_comes.at 37 rfl) 0 rfl ?_
      refine a_getR (kX6_comes.at 38 rfl) fg_X6_34 ir_44_16 ?_
      refine a_iload_n (kX6_comes.at 39 rfl) 1 rfl ?_
      refine a_iald (x := M 53 k) (kX6_comes.at 40 rfl) (ia_53) (by omega) (rfl) ?_
      refine a_aload_n (kX6_comes.at 41 rfl) 0 rfl ?_
      refine a_getR (kX6_comes.at 42 rfl) fg_X6_34 ir_44_16 ?_
      refine a_iload (kX6_comes.at 43 rfl) 4 rfl ?_
      refine a_iald (x := M 53 (whoIn M ((M 52 k) - 1))) (kX6_comes.at 44 rfl) (ia_53) (by omega) (rfl) ?_
      refine a_ixor (kX6_comes.at 45 rfl) ?_
      refine a_istore (ls' := [(0, vR 44), (1, vI k), (2, vI (whoIn M ((M 52 k) - 1))), (3, vI (whoIn M ((M 52 k) + 1))), (4, vI (whoIn M ((M 52 k) - 1))), (5, vI (iXor (M 53 k) (M 53 (whoIn M ((M 52 k) - 1)))))]) (kX6_comes.at 46 rfl) (by decide) rfl ?_
      refine a_aload_n (kX6_comes.at 47 rfl) 0 rfl ?_
      refine a_getR (kX6_comes.at 48 rfl) fg_X6_34 ir_44_16 ?_
      refine a_iload_n (kX6_comes.at 49 rfl) 1 rfl ?_
      refine a_dup2 (kX6_comes.at 50 rfl) rfl rfl ?_
      refine a_iald (x := M 53 k) (kX6_comes.at 51 rfl) (ia_53) (by omega) (rfl) ?_
      refine a_iload (kX6_comes.at 52 rfl) 5 rfl ?_
      refine a_iload (kX6_comes.at 53 rfl) 5 rfl ?_
      refine a_inegW (kX6_comes.at 54 rfl) ?_
      refine a_iand (kX6_comes.at 55 rfl) ?_
      refine a_ixor (kX6_comes.at 56 rfl) ?_
      refine a_iast (kX6_comes.at 57 rfl) (ia_53) (by omega) ?_
      refine a_aload_n (kX6_comes.at 58 rfl) 0 rfl ?_
      refine a_getR (kX6_comes.at 59 rfl) fg_X6_40 ir_44_18 ?_
      refine a_iload_n (kX6_comes.at 60 rfl) 1 rfl ?_
      refine a_dup2 (kX6_comes.at 61 rfl) rfl rfl ?_
      refine a_iald (x := M 55 k) (kX6_comes.at 62 rfl) (ia_55) (by omega) (rd_ne (by decide)) ?_
      refine a_iconst (kX6_comes.at 63 rfl) rfl ?_
      refine a_iadd (kX6_comes.at 64 rfl) (inr (by omega)) ?_
      refine a_iast (kX6_comes.at 65 rfl) (ia_55) (by omega) ?_
      exact a_vretE (kX6_comes.at 66 rfl) (by first | (exfalso; omega) | simp [comes, comesTo, comesX, *])
theorem Fr_comes (M : Mem) (k : Int) : Fr M (comes M k) := by
  unfold comes comesX
  split
  · exact Fr.refl M
  · exact ((Fr.refl M).up (by omega)).up (by omega)
theorem RG_comes {M : Mem} {B : Int} (h : RG M B) (k : Int) (hk : 0 ≤ k ∧ k < M 44 7) : RG (comes M k) (B + 1) := by
  unfold comes comesX
  split
  · exact h.mono (by omega)
  · refine ⟨h.1, fun j h0 h1 => ?_, (show 0 ≤ M 44 24 ∧ M 44 24 ≤ B + 1 by have := h.2.2; omega), (show 0 ≤ M 44 25 ∧ M 44 25 ≤ 9 * (B + 1) by have := h.2.2; omega)⟩
    have hj := h.2.1 j h0 h1
    have hk2 := h.2.1 k hk.1 hk.2
    refine ⟨hj.1, (show 0 ≤ M 54 j ∧ M 54 j ≤ B + 1 by omega), ?_⟩
    show 0 ≤ ups (M 55) k (M 55 k + 1) j ∧ ups (M 55) k (M 55 k + 1) j ≤ B + 1
    unfold ups
    split <;> omega
def isDead (M : Mem) (k h : Int) : Bool := decide ((whoIn M (h - 1) ≠ -1 ∧ whoIn M (h - 1) ≠ k ∧ agree M k (whoIn M (h - 1)) = true) ∨ (whoIn M (h + 1) ≠ -1 ∧ whoIn M (h + 1) ≠ k ∧ agree M k (whoIn M (h + 1)) = true))
theorem c_isDead (G : GT) (M : Mem) (k h : Int) (hp : 0 ≤ M 44 7 ∧ M 44 7 ≤ 8) (hk : 0 ≤ k ∧ k ≤ 7) (hh : -100 ≤ h ∧ h ≤ 100) : AM G yX6_isDead cX6_isDead 5 (some .boolean) 1 M [vR 44, vI k, vI h] (qI (bI (isDead M k h = true)) M) := by
  refine AM.mk (own := RX6) rfl sv_X6_isDead.1.2.2.2.2.2 (Nat.le_of_ble_eq_true rfl) rfl ?_
  have w1 := whoIn_r M (h - 1) hp.1
  have w2 := whoIn_r M (h + 1) hp.1
  refine a_aload_n (kX6_isDead.at 0 rfl) 0 rfl ?_
  refine a_iload_n (kX6_isDead.at 1 rfl) 2 rfl ?_
  refine a_iconst (kX6_isDead.at 2 rfl) rfl ?_
  refine a_isub (kX6_isDead.at 3 rfl) (inr (by omega)) ?_
  refine AW.callV (as := [vI (h - 1)]) (st := []) (kX6_isDead.at 4 rfl) ml_X6_146 sv_X6_whoIn (k := 44) (io_44) rfl rfl ⟨Nat.le_of_ble_eq_true rfl, Nat.le_of_ble_eq_true rfl⟩ ⟨Nat.le_refl _, Nat.le_refl _⟩ rfl rfl (Nat.le_of_ble_eq_true rfl) (c_whoIn G M (h - 1) (by omega)) (kIE ?_)
  refine a_istore_n (ls' := [(0, vR 44), (1, vI k), (2, vI h), (3, vI (whoIn M (h - 1)))]) (kX6_isDead.at 5 rfl) (by decide) rfl ?_
  refine a_aload_n (kX6_isDead.at 6 rfl) 0 rfl ?_
  refine a_iload_n (kX6_isDead.at 7 rfl) 2 rfl ?_
  refine a_iconst (kX6_isDead.at 8 rfl) rfl ?_
  refine a_iadd (kX6_isDead.at 9 rfl) (inr (by omega)) ?_
  refine AW.callV (as := [vI (h + 1)]) (st := []) (kX6_isDead.at 10 rfl) ml_X6_146 sv_X6_whoIn (k := 44) (io_44) rfl rfl ⟨Nat.le_of_ble_eq_true rfl, Nat.le_of_ble_eq_true rfl⟩ ⟨Nat.le_refl _, Nat.le_refl _⟩ rfl rfl (Nat.le_of_ble_eq_true rfl) (c_whoIn G M (h + 1) (by omega)) (kIE ?_)
  refine a_istore (ls' := [(0, vR 44), (1, vI k), (2, vI h), (3, vI (whoIn M (h - 1))), (4, vI (whoIn M (h + 1)))]) (kX6_isDead.at 11 rfl) (by decide) rfl ?_
  refine a_iload_n (kX6_isDead.at 12 rfl) 3 rfl ?_
  refine a_iconst (kX6_isDead.at 13 rfl) rfl ?_
  refine a_icmpeq (tgt := 36) (kX6_isDead.at 14 rfl) (by decide) (fun h19 => ?_) (fun h19 => ?_)
  · refine a_iload (kX6_isDead.at 23 rfl) 4 rfl ?_
    refine a_iconst (kX6_isDead.at 24 rfl) rfl ?_
    refine a_icmpeq (tgt := 62) (kX6_isDead.at 25 rfl) (by decide) (fun h39 => ?_) (fun h39 => ?_)
    · refine a_iconst (kX6_isDead.at 36 rfl) rfl ?_
      exact a_zretE (kX6_isDead.at 37 rfl) (by first | exact Or.inl rfl | exact Or.inr rfl | omega) (⟨by simp [bI, isDead, *], rfl⟩)
    · refine a_iload (kX6_isDead.at 26 rfl) 4 rfl ?_
      refine a_iload_n (kX6_isDead.at 27 rfl) 1 rfl ?_
      refine a_icmpeq (tgt := 62) (kX6_isDead.at 28 rfl) (by decide) (fun h45 => ?_) (fun h45 => ?_)
      · refine a_iconst (kX6_isDead.at 36 rfl) rfl ?_
        exact a_zretE (kX6_isDead.at 37 rfl) (by first | exact Or.inl rfl | exact Or.inr rfl | omega) (⟨by simp [bI, isDead, *], rfl⟩)
      · refine a_aload_n (kX6_isDead.at 29 rfl) 0 rfl ?_
        refine a_iload_n (kX6_isDead.at 30 rfl) 1 rfl ?_
        refine a_iload (kX6_isDead.at 31 rfl) 4 rfl ?_
        refine AW.callV (as := [vI k, vI (whoIn M (h + 1))]) (st := []) (kX6_isDead.at 32 rfl) ml_X6_153 sv_X6_agree (k := 44) (io_44) rfl rfl ⟨Nat.le_of_ble_eq_true rfl, Nat.le_of_ble_eq_true rfl⟩ ⟨Nat.le_refl _, Nat.le_refl _⟩ rfl rfl (Nat.le_of_ble_eq_true rfl) (c_agree G M k (whoIn M (h + 1)) (by omega) (by omega)) (kIE ?_)
        refine a_ifeqB (tgt := 62) (kX6_isDead.at 33 rfl) (by decide) (fun h55 => ?_) (fun h55 => ?_)
        · refine a_iconst (kX6_isDead.at 36 rfl) rfl ?_
          exact a_zretE (kX6_isDead.at 37 rfl) (by first | exact Or.inl rfl | exact Or.inr rfl | omega) (⟨by simp [bI, isDead, *], rfl⟩)
        · refine a_iconst (kX6_isDead.at 34 rfl) rfl ?_
          refine a_goto (tgt := 63) (kX6_isDead.at 35 rfl) (by decide) ?_
          exact a_zretE (kX6_isDead.at 37 rfl) (by first | exact Or.inl rfl | exact Or.inr rfl | omega) (⟨by simp [bI, isDead, *], rfl⟩)
  · refine a_iload_n (kX6_isDead.at 15 rfl) 3 rfl ?_
    refine a_iload_n (kX6_isDead.at 16 rfl) 1 rfl ?_
    refine a_icmpeq (tgt := 36) (kX6_isDead.at 17 rfl) (by decide) (fun h24 => ?_) (fun h24 => ?_)
    · refine a_iload (kX6_isDead.at 23 rfl) 4 rfl ?_
      refine a_iconst (kX6_isDead.at 24 rfl) rfl ?_
      refine a_icmpeq (tgt := 62) (kX6_isDead.at 25 rfl) (by decide) (fun h39 => ?_) (fun h39 => ?_)
      · refine a_iconst (kX6_isDead.at 36 rfl) rfl ?_
        exact a_zretE (kX6_isDead.at 37 rfl) (by first | exact Or.inl rfl | exact Or.inr rfl | omega) (⟨by simp [bI, isDead, *], rfl⟩)
      · refine a_iload (kX6_isDead.at 26 rfl) 4 rfl ?_
        refine a_iload_n (kX6_isDead.at 27 rfl) 1 rfl ?_
        refine a_icmpeq (tgt := 62) (kX6_isDead.at 28 rfl) (by decide) (fun h45 => ?_) (fun h45 => ?_)
        · refine a_iconst (kX6_isDead.at 36 rfl) rfl ?_
          exact a_zretE (kX6_isDead.at 37 rfl) (by first | exact Or.inl rfl | exact Or.inr rfl | omega) (⟨by simp [bI, isDead, *], rfl⟩)
        · refine a_aload_n (kX6_isDead.at 29 rfl) 0 rfl ?_
          refine a_iload_n (kX6_isDead.at 30 rfl) 1 rfl ?_
          refine a_iload (kX6_isDead.at 31 rfl) 4 rfl ?_
          refine AW.callV (as := [vI k, vI (whoIn M (h + 1))]) (st := []) (kX6_isDead.at 32 rfl) ml_X6_153 sv_X6_agree (k := 44) (io_44) rfl rfl ⟨Nat.le_of_ble_eq_true rfl, Nat.le_of_ble_eq_true rfl⟩ ⟨Nat.le_refl _, Nat.le_refl _⟩ rfl rfl (Nat.le_of_ble_eq_true rfl) (c_agree G M k (whoIn M (h + 1)) (by omega) (by omega)) (kIE ?_)
          refine a_ifeqB (tgt := 62) (kX6_isDead.at 33 rfl) (by decide) (fun h55 => ?_) (fun h55 => ?_)
          · refine a_iconst (kX6_isDead.at 36 rfl) rfl ?_
            exact a_zretE (kX6_isDead.at 37 rfl) (by first | exact Or.inl rfl | exact Or.inr rfl | omega) (⟨by simp [bI, isDead, *], rfl⟩)
          · refine a_iconst (kX6_isDead.at 34 rfl) rfl ?_
            refine a_goto (tgt := 63) (kX6_isDead.at 35 rfl) (by decide) ?_
            exact a_zretE (kX6_isDead.at 37 rfl) (by first | exact Or.inl rfl | exact Or.inr rfl | omega) (⟨by simp [bI, isDead, *], rfl⟩)
    · refine a_aload_n (kX6_isDead.at 18 rfl) 0 rfl ?_
      refine a_iload_n (kX6_isDead.at 19 rfl) 1 rfl ?_
      refine a_iload_n (kX6_isDead.at 20 rfl) 3 rfl ?_
      refine AW.callV (as := [vI k, vI (whoIn M (h - 1))]) (st := []) (kX6_isDead.at 21 rfl) ml_X6_153 sv_X6_agree (k := 44) (io_44) rfl rfl ⟨Nat.le_of_ble_eq_true rfl, Nat.le_of_ble_eq_true rfl⟩ ⟨Nat.le_refl _, Nat.le_refl _⟩ rfl rfl (Nat.le_of_ble_eq_true rfl) (c_agree G M k (whoIn M (h - 1)) (by omega) (by omega)) (kIE ?_)
      refine a_ifneB (tgt := 58) (kX6_isDead.at 22 rfl) (by decide) (fun h33 => ?_) (fun h33 => ?_)
      · refine a_iconst (kX6_isDead.at 34 rfl) rfl ?_
        refine a_goto (tgt := 63) (kX6_isDead.at 35 rfl) (by decide) ?_
        exact a_zretE (kX6_isDead.at 37 rfl) (by first | exact Or.inl rfl | exact Or.inr rfl | omega) (⟨by simp [bI, isDead, *], rfl⟩)
      · refine a_iload (kX6_isDead.at 23 rfl) 4 rfl ?_
        refine a_iconst (kX6_isDead.at 24 rfl) rfl ?_
        refine a_icmpeq (tgt := 62) (kX6_isDead.at 25 rfl) (by decide) (fun h39 => ?_) (fun h39 => ?_)
        · refine a_iconst (kX6_isDead.at 36 rfl) rfl ?_
          exact a_zretE (kX6_isDead.at 37 rfl) (by first | exact Or.inl rfl | exact Or.inr rfl | omega) (⟨by simp [bI, isDead, *], rfl⟩)
        · refine a_iload (kX6_isDead.at 26 rfl) 4 rfl ?_
          refine a_iload_n (kX6_isDead.at 27 rfl) 1 rfl ?_
          refine a_icmpeq (tgt := 62) (kX6_isDead.at 28 rfl) (by decide) (fun h45 => ?_) (fun h45 => ?_)
          · refine a_iconst (kX6_isDead.at 36 rfl) rfl ?_
            exact a_zretE (kX6_isDead.at 37 rfl) (by first | exact Or.inl rfl | exact Or.inr rfl | omega) (⟨by simp [bI, isDead, *], rfl⟩)
          · refine a_aload_n (kX6_isDead.at 29 rfl) 0 rfl ?_
            refine a_iload_n (kX6_isDead.at 30 rfl) 1 rfl ?_
            refine a_iload (kX6_isDead.at 31 rfl) 4 rfl ?_
            refine AW.callV (as := [vI k, vI (whoIn M (h + 1))]) (st := []) (kX6_isDead.at 32 rfl) ml_X6_153 sv_X6_agree (k := 44) (io_44) rfl rfl ⟨Nat.le_of_ble_eq_true rfl, Nat.le_of_ble_eq_true rfl⟩ ⟨Nat.le_refl _, Nat.le_refl _⟩ rfl rfl (Nat.le_of_ble_eq_true rfl) (c_agree G M k (whoIn M (h + 1)) (by omega) (by omega)) (kIE ?_)
            refine a_ifeqB (tgt := 62) (kX6_isDead.at 33 rfl) (by decide) (fun h55 => ?_) (fun h55 => ?_)
            · refine a_iconst (kX6_isDead.at 36 rfl) rfl ?_
              exact a_zretE (kX6_isDead.at 37 rfl) (by first | exact Or.inl rfl | exact Or.inr rfl | omega) (⟨by simp [bI, isDead, *], rfl⟩)
            · refine a_iconst (kX6_isDead.at 34 rfl) rfl ?_
              refine a_goto (tgt := 63) (kX6_isDead.at 35 rfl) (by decide) ?_
              exact a_zretE (kX6_isDead.at 37 rfl) (by first | exact Or.inl rfl | exact Or.inr rfl | omega) (⟨by simp [bI, isDead, *], rfl⟩)
def knBest (M : Mem) (k : Int) : Int → Int → Int := fun h b => if (whoIn M h = -1 ∧ ¬ isDead M k h = true) ∧ (b = -1 ∨ apart h (M 52 k) < apart b (M 52 k)) then h else b
def best (M : Mem) (k : Int) : Int := forR 0 10 (knBest M k) (-1)
set_option maxHeartbeats 4000000 in
set_option maxRecDepth 100000 in
theorem l_knocks (G : GT) (M : Mem) (q k : Int) (P : Option AV → Mem → Prop) (hp : 0 ≤ M 44 7 ∧ M 44 7 ≤ 8) (hk : 0 ≤ k ∧ k ≤ 7) (hh : 0 ≤ M 52 k ∧ M 52 k ≤ 9) (hlohi : (0 : Int) ≤ 10) (kk : (-1 ≤ (forR 0 10 (knBest M k) (-1)) ∧ (forR 0 10 (knBest M k) (-1)) ≤ 9) → AW G RX6 cX6_knocks 6 none (XM G 2 P) 101 [(0, vR 44), (1, vI q), (2, vI k), (3, vI (forR 0 10 (knBest M k) (-1))), (4, vI 10)] [] M) : AW G RX6 cX6_knocks 6 none (XM G 2 P) 20 [(0, vR 44), (1, vI q), (2, vI k), (3, vI (-1)), (4, vI 0)] [] M := by
  have key : ∀ (nn : Nat) (h : Int) (b : Int), (0 : Int) ≤ h → h ≤ 10 → b = forR 0 h (knBest M k) (-1) → (-1 ≤ b ∧ b ≤ 9) → 10 - h < nn → AW G RX6 cX6_knocks 6 none (XM G 2 P) 20 [(0, vR 44), (1, vI q), (2, vI k), (3, vI b), (4, vI h)] [] M := by
    intro nn
    induction nn with
    | zero => intro h b hk0 hk1 e_b hb hn; omega
    | succ nn ih =>
      intro h b hk0 hk1 e_b hb hn
      refine a_iload (kX6_knocks.at 13 rfl) 4 rfl ?_
      refine a_bipush (kX6_knocks.at 14 rfl) rfl rfl ?_
      refine a_icmpge (tgt := 101) (kX6_knocks.at 15 rfl) (by decide) (fun h24 => ?_) (fun h24 => ?_)
      · obtain rfl : h = 10 := by omega
        subst e_b
        exact kk hb
      · refine a_aload_n (kX6_knocks.at 16 rfl) 0 rfl ?_
        refine a_iload (kX6_knocks.at 17 rfl) 4 rfl ?_
        refine AW.callV (as := [vI h]) (st := []) (kX6_knocks.at 18 rfl) ml_X6_146 sv_X6_whoIn (k := 44) (io_44) rfl rfl ⟨Nat.le_of_ble_eq_true rfl, Nat.le_of_ble_eq_true rfl⟩ ⟨Nat.le_refl _, Nat.le_refl _⟩ rfl rfl (Nat.le_of_ble_eq_true rfl) (c_whoIn G M h (by omega)) (kIE ?_)
        refine a_iconst (kX6_knocks.at 19 rfl) rfl ?_
        refine a_icmpne (tgt := 51) (kX6_knocks.at 20 rfl) (by decide) (fun h34 => ?_) (fun h34 => ?_)
        · refine a_iconst (kX6_knocks.at 28 rfl) rfl ?_
          refine a_istore (ls' := [(0, vR 44), (1, vI q), (2, vI k), (3, vI b), (4, vI h), (5, vI 0)]) (kX6_knocks.at 29 rfl) (by decide) rfl ?_
          refine a_iload (kX6_knocks.at 30 rfl) 5 rfl ?_
          refine a_ifeq (tgt := 93) (kX6_knocks.at 31 rfl) (by decide) (fun h56 => ?_) (fun h56 => absurd h56 (by decide))
          refine a_iload_n (kX6_knocks.at 50 rfl) 3 rfl ?_
          refine a_istore_n (ls' := [(0, vR 44), (1, vI q), (2, vI k), (3, vI b), (4, vI h), (5, vI 0)]) (kX6_knocks.at 51 rfl) (by decide) rfl ?_
          refine a_iinc (ls' := [(0, vR 44), (1, vI q), (2, vI k), (3, vI b), (4, vI (h + 1)), (5, vI 0)]) (kX6_knocks.at 52 rfl) 4 rfl (by decide) (inr (by omega)) rfl ?_
          refine a_goto (tgt := 20) (kX6_knocks.at 53 rfl) (by decide) ?_
          refine AW.loc (ls' := [(0, vR 44), (1, vI q), (2, vI k), (3, vI b), (4, vI (h + 1))]) [0, 1, 2, 3, 4] rfl ?_
          exact ih ((h + 1)) (b) (by omega) (by omega) (by rw [forR_succ hk0, ← e_b] <;> (clear ih kk e_b; first | (exfalso; omega) | (unfold knBest; simp [*] <;> omega))) (by omega) (by omega)
        · refine a_aload_n (kX6_knocks.at 21 rfl) 0 rfl ?_
          refine a_iload_n (kX6_knocks.at 22 rfl) 2 rfl ?_
          refine a_iload (kX6_knocks.at 23 rfl) 4 rfl ?_
          refine AW.callV (as := [vI k, vI h]) (st := []) (kX6_knocks.at 24 rfl) ml_X6_156 sv_X6_isDead (k := 44) (io_44) rfl rfl ⟨Nat.le_of_ble_eq_true rfl, Nat.le_of_ble_eq_true rfl⟩ ⟨Nat.le_refl _, Nat.le_refl _⟩ rfl rfl (Nat.le_of_ble_eq_true rfl) (c_isDead G M k h (by omega) (by omega) (by omega)) (kIE ?_)
          refine a_ifneB (tgt := 51) (kX6_knocks.at 25 rfl) (by decide) (fun h44 => ?_) (fun h44 => ?_)
          · refine a_iconst (kX6_knocks.at 28 rfl) rfl ?_
            refine a_istore (ls' := [(0, vR 44), (1, vI q), (2, vI k), (3, vI b), (4, vI h), (5, vI 0)]) (kX6_knocks.at 29 rfl) (by decide) rfl ?_
            refine a_iload (kX6_knocks.at 30 rfl) 5 rfl ?_
            refine a_ifeq (tgt := 93) (kX6_knocks.at 31 rfl) (by decide) (fun h56 => ?_) (fun h56 => absurd h56 (by decide))
            refine a_iload_n (kX6_knocks.at 50 rfl) 3 rfl ?_
            refine a_istore_n (ls' := [(0, vR 44), (1, vI q), (2, vI k), (3, vI b), (4, vI h), (5, vI 0)]) (kX6_knocks.at 51 rfl) (by decide) rfl ?_
            refine a_iinc (ls' := [(0, vR 44), (1, vI q), (2, vI k), (3, vI b), (4, vI (h + 1)), (5, vI 0)]) (kX6_knocks.at 52 rfl) 4 rfl (by decide) (inr (by omega)) rfl ?_
            refine a_goto (tgt := 20) (kX6_knocks.at 53 rfl) (by decide) ?_
            refine AW.loc (ls' := [(0, vR 44), (1, vI q), (2, vI k), (3, vI b), (4, vI (h + 1))]) [0, 1, 2, 3, 4] rfl ?_
            exact ih ((h + 1)) (b) (by omega) (by omega) (by rw [forR_succ hk0, ← e_b] <;> (clear ih kk e_b; first | (exfalso; omega) | (unfold knBest; simp [*] <;> omega))) (by omega) (by omega)
          · refine a_iconst (kX6_knocks.at 26 rfl) rfl ?_
            refine a_goto (tgt := 52) (kX6_knocks.at 27 rfl) (by decide) ?_
            refine a_istore (ls' := [(0, vR 44), (1, vI q), (2, vI k), (3, vI b), (4, vI h), (5, vI 1)]) (kX6_knocks.at 29 rfl) (by decide) rfl ?_
            refine a_iload (kX6_knocks.at 30 rfl) 5 rfl ?_
            refine a_ifeq (tgt := 93) (kX6_knocks.at 31 rfl) (by decide) (fun h56 => absurd h56 (by decide)) (fun h56 => ?_)
            refine a_iload_n (kX6_knocks.at 32 rfl) 3 rfl ?_
            refine a_iconst (kX6_knocks.at 33 rfl) rfl ?_
            refine a_icmpeq (tgt := 88) (kX6_knocks.at 34 rfl) (by decide) (fun h61 => ?_) (fun h61 => ?_)
            · refine a_iload (kX6_knocks.at 48 rfl) 4 rfl ?_
              refine a_goto (tgt := 94) (kX6_knocks.at 49 rfl) (by decide) ?_
              refine a_istore_n (ls' := [(0, vR 44), (1, vI q), (2, vI k), (3, vI h), (4, vI h), (5, vI 1)]) (kX6_knocks.at 51 rfl) (by decide) rfl ?_
              refine a_iinc (ls' := [(0, vR 44), (1, vI q), (2, vI k), (3, vI h), (4, vI (h + 1)), (5, vI 1)]) (kX6_knocks.at 52 rfl) 4 rfl (by decide) (inr (by omega)) rfl ?_
              refine a_goto (tgt := 20) (kX6_knocks.at 53 rfl) (by decide) ?_
              refine AW.loc (ls' := [(0, vR 44), (1, vI q), (2, vI k), (3, vI h), (4, vI (h + 1))]) [0, 1, 2, 3, 4] rfl ?_
              exact ih ((h + 1)) (h) (by omega) (by omega) (by rw [forR_succ hk0, ← e_b] <;> (clear ih kk e_b; first | (exfalso; omega) | (unfold knBest; simp [*] <;> omega))) (by omega) (by omega)
            · refine a_iload (kX6_knocks.at 35 rfl) 4 rfl ?_
              refine a_aload_n (kX6_knocks.at 36 rfl) 0 rfl ?_
              refine a_getR (kX6_knocks.at 37 rfl) fg_X6_31 ir_44_15 ?_
              refine a_iload_n (kX6_knocks.at 38 rfl) 2 rfl ?_
              refine a_iald (x := M 52 k) (kX6_knocks.at 39 rfl) (ia_52) (by omega) (rfl) ?_
              refine AW.callS (as := [vI h, vI (M 52 k)]) (st := []) (kX6_knocks.at 40 rfl) ml_X6_159 ss_X6_apart ⟨Nat.le_of_ble_eq_true rfl, Nat.le_of_ble_eq_true rfl⟩ ⟨Nat.le_refl _, Nat.le_refl _⟩ rfl rfl (Nat.le_of_ble_eq_true rfl) (c_apart G M h (M 52 k) (by omega) (by omega)) (kIE ?_)
              refine a_iload_n (kX6_knocks.at 41 rfl) 3 rfl ?_
              refine a_aload_n (kX6_knocks.at 42 rfl) 0 rfl ?_
              refine a_getR (kX6_knocks.at 43 rfl) fg_X6_31 ir_44_15 ?_
              refine a_iload_n (kX6_knocks.at 44 rfl) 2 rfl ?_
              refine a_iald (x := M 52 k) (kX6_knocks.at 45 rfl) (ia_52) (by omega) (rfl) ?_
              refine AW.callS (as := [vI b, vI (M 52 k)]) (st := [vI (apart h (M 52 k))]) (kX6_knocks.at 46 rfl) ml_X6_159 ss_X6_apart ⟨Nat.le_of_ble_eq_true rfl, Nat.le_of_ble_eq_true rfl⟩ ⟨Nat.le_refl _, Nat.le_refl _⟩ rfl rfl (Nat.le_of_ble_eq_true rfl) (c_apart G M b (M 52 k) (by omega) (by omega)) (kIE ?_)
              refine a_icmpge (tgt := 93) (kX6_knocks.at 47 rfl) (by decide) (fun h85 => ?_) (fun h85 => ?_)
              · refine a_iload_n (kX6_knocks.at 50 rfl) 3 rfl ?_
                refine a_istore_n (ls' := [(0, vR 44), (1, vI q), (2, vI k), (3, vI b), (4, vI h), (5, vI 1)]) (kX6_knocks.at 51 rfl) (by decide) rfl ?_
                refine a_iinc (ls' := [(0, vR 44), (1, vI q), (2, vI k), (3, vI b), (4, vI (h + 1)), (5, vI 1)]) (kX6_knocks.at 52 rfl) 4 rfl (by decide) (inr (by omega)) rfl ?_
                refine a_goto (tgt := 20) (kX6_knocks.at 53 rfl) (by decide) ?_
                refine AW.loc (ls' := [(0, vR 44), (1, vI q), (2, vI k), (3, vI b), (4, vI (h + 1))]) [0, 1, 2, 3, 4] rfl ?_
                exact ih ((h + 1)) (b) (by omega) (by omega) (by rw [forR_succ hk0, ← e_b] <;> (clear ih kk e_b; first | (exfalso; omega) | (unfold knBest; simp [*] <;> omega))) (by omega) (by omega)
              · refine a_iload (kX6_knocks.at 48 rfl) 4 rfl ?_
                refine a_goto (tgt := 94) (kX6_knocks.at 49 rfl) (by decide) ?_
                refine a_istore_n (ls' := [(0, vR 44), (1, vI q), (2, vI k), (3, vI h), (4, vI h), (5, vI 1)]) (kX6_knocks.at 51 rfl) (by decide) rfl ?_
                refine a_iinc (ls' := [(0, vR 44), (1, vI q), (2, vI k), (3, vI h), (4, vI (h + 1)), (5, vI 1)]) (kX6_knocks.at 52 rfl) 4 rfl (by decide) (inr (by omega)) rfl ?_
                refine a_goto (tgt := 20) (kX6_knocks.at 53 rfl) (by decide) ?_
                refine AW.loc (ls' := [(0, vR 44), (1, vI q), (2, vI k), (3, vI h), (4, vI (h + 1))]) [0, 1, 2, 3, 4] rfl ?_
                exact ih ((h + 1)) (h) (by omega) (by omega) (by rw [forR_succ hk0, ← e_b] <;> (clear ih kk e_b; first | (exfalso; omega) | (unfold knBest; simp [*] <;> omega))) (by omega) (by omega)
  exact key ((10) - (0) + 1 : Int).toNat (0) (-1) (Int.le_refl _) hlohi (forR_nil (Int.le_refl _)).symm (by omega) (by omega)
def knocksX (M : Mem) (q k b : Int) : Mem := upm (upm (upm (upm (upm M 44 25 (M 44 25 + apart b (M 52 k))) 52 k b) 54 k (M 54 k + 1)) 44 27 (if M 44 26 = -1 then k else M 44 27)) 44 26 (if M 44 26 = -1 then q else M 44 26)
def knocks (M : Mem) (q k : Int) : Mem := if isDead M k (M 52 k) = true then (if best M k = -1 then upm M 44 24 (M 44 24 + 1) else knocksX M q k (best M k)) else M
theorem apart_r {a b : Int} (ha : -1 ≤ a ∧ a ≤ 9) (hb : 0 ≤ b ∧ b ≤ 9) : 0 ≤ apart a b ∧ apart a b ≤ 10 := by
  unfold apart
  split <;> omega
theorem c_knocks (G : GT) (M : Mem) (q k B : Int) (hg : RG M B) (hk : 0 ≤ k ∧ k < M 44 7) (hB : B ≤ 1000000) : AM G yX6_knocks cX6_knocks 6 none 2 M [vR 44, vI q, vI k] (qV (knocks M q k)) := by
  refine AM.mk (own := RX6) rfl sv_X6_knocks.1.2.2.2.2.2 (Nat.le_of_ble_eq_true rfl) rfl ?_
  have hp := hg.1
  have hh := hg.2.1 k hk.1 hk.2
  have hf := hg.2.2
  refine a_aload_n (kX6_knocks.at 0 rfl) 0 rfl ?_
  refine a_iload_n (kX6_knocks.at 1 rfl) 2 rfl ?_
  refine a_aload_n (kX6_knocks.at 2 rfl) 0 rfl ?_
  refine a_getR (kX6_knocks.at 3 rfl) fg_X6_31 ir_44_15 ?_
  refine a_iload_n (kX6_knocks.at 4 rfl) 2 rfl ?_
  refine a_iald (x := M 52 k) (kX6_knocks.at 5 rfl) (ia_52) (by omega) (rfl) ?_
  refine AW.callV (as := [vI k, vI (M 52 k)]) (st := []) (kX6_knocks.at 6 rfl) ml_X6_156 sv_X6_isDead (k := 44) (io_44) rfl rfl ⟨Nat.le_of_ble_eq_true rfl, Nat.le_of_ble_eq_true rfl⟩ ⟨Nat.le_refl _, Nat.le_refl _⟩ rfl rfl (Nat.le_of_ble_eq_true rfl) (c_isDead G M k (M 52 k) (by omega) (by omega) (by omega)) (kIE ?_)
  refine a_ifneB (tgt := 15) (kX6_knocks.at 7 rfl) (by decide) (fun h11 => ?_) (fun h11 => ?_)
  · refine a_iconst (kX6_knocks.at 9 rfl) rfl ?_
    refine a_istore_n (ls' := [(0, vR 44), (1, vI q), (2, vI k), (3, vI (-1))]) (kX6_knocks.at 10 rfl) (by decide) rfl ?_
    refine a_iconst (kX6_knocks.at 11 rfl) rfl ?_
    refine a_istore (ls' := [(0, vR 44), (1, vI q), (2, vI k), (3, vI (-1)), (4, vI 0)]) (kX6_knocks.at 12 rfl) (by decide) rfl ?_
    refine l_knocks G M q k _ hp (by omega) (by omega) (by omega) ?_
    intro hb
    show AW _ _ _ _ _ _ 101 [(0, vR 44), (1, vI q), (2, vI k), (3, vI (best M k)), (4, vI 10)] [] M
    refine a_iload_n (kX6_knocks.at 54 rfl) 3 rfl ?_
    refine a_iconst (kX6_knocks.at 55 rfl) rfl ?_
    refine a_icmpne (tgt := 117) (kX6_knocks.at 56 rfl) (by decide) (fun h103 => ?_) (fun h103 => ?_)
    · have ha := apart_r hb (show 0 ≤ M 52 k ∧ M 52 k ≤ 9 by omega)
      change 0 ≤ apart (best M k) (M 52 k) ∧ apart (best M k) (M 52 k) ≤ 10 at ha
      change -1 ≤ best M k ∧ best M k ≤ 9 at hb
      refine a_aload_n (kX6_knocks.at 64 rfl) 0 rfl ?_
      refine a_dup (kX6_knocks.at 65 rfl) rfl ?_
      refine a_getI (x := M 44 25) (kX6_knocks.at 66 rfl) fg_X6_165 ii_44_25 (rfl) ?_
      refine a_iload_n (kX6_knocks.at 67 rfl) 3 rfl ?_
      refine a_aload_n (kX6_knocks.at 68 rfl) 0 rfl ?_
      refine a_getR (kX6_knocks.at 69 rfl) fg_X6_31 ir_44_15 ?_
      refine a_iload_n (kX6_knocks.at 70 rfl) 2 rfl ?_
      refine a_iald (x := M 52 k) (kX6_knocks.at 71 rfl) (ia_52) (by omega) (rfl) ?_
      refine AW.callS (as := [vI (best M k), vI (M 52 k)]) (st := [vI (M 44 25), vR 44]) (kX6_knocks.at 72 rfl) ml_X6_159 ss_X6_apart ⟨Nat.le_of_ble_eq_true rfl, Nat.le_of_ble_eq_true rfl⟩ ⟨Nat.le_refl _, Nat.le_refl _⟩ rfl rfl (Nat.le_of_ble_eq_true rfl) (c_apart G M (best M k) (M 52 k) (by omega) (by omega)) (kIE ?_)
      refine a_iadd (kX6_knocks.at 73 rfl) (inr (by omega)) ?_
      refine a_putI (j := 25) (kX6_knocks.at 74 rfl) fp_X6_165 (ii_44_25) rfl ?_
      refine a_aload_n (kX6_knocks.at 75 rfl) 0 rfl ?_
      refine a_getR (kX6_knocks.at 76 rfl) fg_X6_31 ir_44_15 ?_
      refine a_iload_n (kX6_knocks.at 77 rfl) 2 rfl ?_
      refine a_iload_n (kX6_knocks.at 78 rfl) 3 rfl ?_
      refine a_iast (kX6_knocks.at 79 rfl) (ia_52) (by omega) ?_
      refine a_aload_n (kX6_knocks.at 80 rfl) 0 rfl ?_
      refine a_getR (kX6_knocks.at 81 rfl) fg_X6_37 ir_44_17 ?_
      refine a_iload_n (kX6_knocks.at 82 rfl) 2 rfl ?_
      refine a_dup2 (kX6_knocks.at 83 rfl) rfl rfl ?_
      refine a_iald (x := M 54 k) (kX6_knocks.at 84 rfl) (ia_54) (by omega) ((rd_ne (by decide)).trans (rd_ne (by decide))) ?_
      refine a_iconst (kX6_knocks.at 85 rfl) rfl ?_
      refine a_iadd (kX6_knocks.at 86 rfl) (inr (by omega)) ?_
      refine a_iast (kX6_knocks.at 87 rfl) (ia_54) (by omega) ?_
      refine a_aload_n (kX6_knocks.at 88 rfl) 0 rfl ?_
      refine a_aload_n (kX6_knocks.at 89 rfl) 0 rfl ?_
      refine a_getI (x := M 44 26) (kX6_knocks.at 90 rfl) fg_X6_168 ii_44_26 ((rd_ne (by decide)).trans ((rd_ne (by decide)).trans (rd_ni (by decide)))) ?_
      refine a_iconst (kX6_knocks.at 91 rfl) rfl ?_
      refine a_icmpne (tgt := 166) (kX6_knocks.at 92 rfl) (by decide) (fun h159 => ?_) (fun h159 => ?_)
      · refine a_aload_n (kX6_knocks.at 95 rfl) 0 rfl ?_
        refine a_getI (x := M 44 27) (kX6_knocks.at 96 rfl) fg_X6_171 ii_44_27 ((rd_ne (by decide)).trans ((rd_ne (by decide)).trans (rd_ni (by decide)))) ?_
        refine a_putI (j := 27) (kX6_knocks.at 97 rfl) fp_X6_171 (ii_44_27) rfl ?_
        refine a_aload_n (kX6_knocks.at 98 rfl) 0 rfl ?_
        refine a_aload_n (kX6_knocks.at 99 rfl) 0 rfl ?_
        refine a_getI (x := M 44 26) (kX6_knocks.at 100 rfl) fg_X6_168 ii_44_26 ((rd_ni (by decide)).trans ((rd_ne (by decide)).trans ((rd_ne (by decide)).trans (rd_ni (by decide))))) ?_
        refine a_iconst (kX6_knocks.at 101 rfl) rfl ?_
        refine a_icmpne (tgt := 186) (kX6_knocks.at 102 rfl) (by decide) (fun h179 => ?_) (fun h179 => ?_)
        · refine a_aload_n (kX6_knocks.at 105 rfl) 0 rfl ?_
          refine a_getI (x := M 44 26) (kX6_knocks.at 106 rfl) fg_X6_168 ii_44_26 ((rd_ni (by decide)).trans ((rd_ne (by decide)).trans ((rd_ne (by decide)).trans (rd_ni (by decide))))) ?_
          refine a_putI (j := 26) (kX6_knocks.at 107 rfl) fp_X6_168 (ii_44_26) rfl ?_
          exact a_vretE (kX6_knocks.at 108 rfl) (by first | (exfalso; omega) | simp [knocks, knocksX, *])
        · refine a_iload_n (kX6_knocks.at 103 rfl) 1 rfl ?_
          refine a_goto (tgt := 190) (kX6_knocks.at 104 rfl) (by decide) ?_
          refine a_putI (j := 26) (kX6_knocks.at 107 rfl) fp_X6_168 (ii_44_26) rfl ?_
          exact a_vretE (kX6_knocks.at 108 rfl) (by first | (exfalso; omega) | simp [knocks, knocksX, *])
      · refine a_iload_n (kX6_knocks.at 93 rfl) 2 rfl ?_
        refine a_goto (tgt := 170) (kX6_knocks.at 94 rfl) (by decide) ?_
        refine a_putI (j := 27) (kX6_knocks.at 97 rfl) fp_X6_171 (ii_44_27) rfl ?_
        refine a_aload_n (kX6_knocks.at 98 rfl) 0 rfl ?_
        refine a_aload_n (kX6_knocks.at 99 rfl) 0 rfl ?_
        refine a_getI (x := M 44 26) (kX6_knocks.at 100 rfl) fg_X6_168 ii_44_26 ((rd_ni (by decide)).trans ((rd_ne (by decide)).trans ((rd_ne (by decide)).trans (rd_ni (by decide))))) ?_
        refine a_iconst (kX6_knocks.at 101 rfl) rfl ?_
        refine a_icmpne (tgt := 186) (kX6_knocks.at 102 rfl) (by decide) (fun h179 => ?_) (fun h179 => ?_)
        · refine a_aload_n (kX6_knocks.at 105 rfl) 0 rfl ?_
          refine a_getI (x := M 44 26) (kX6_knocks.at 106 rfl) fg_X6_168 ii_44_26 ((rd_ni (by decide)).trans ((rd_ne (by decide)).trans ((rd_ne (by decide)).trans (rd_ni (by decide))))) ?_
          refine a_putI (j := 26) (kX6_knocks.at 107 rfl) fp_X6_168 (ii_44_26) rfl ?_
          exact a_vretE (kX6_knocks.at 108 rfl) (by first | (exfalso; omega) | simp [knocks, knocksX, *])
        · refine a_iload_n (kX6_knocks.at 103 rfl) 1 rfl ?_
          refine a_goto (tgt := 190) (kX6_knocks.at 104 rfl) (by decide) ?_
          refine a_putI (j := 26) (kX6_knocks.at 107 rfl) fp_X6_168 (ii_44_26) rfl ?_
          exact a_vretE (kX6_knocks.at 108 rfl) (by first | (exfalso; omega) | simp [knocks, knocksX, *])
    · refine a_aload_n (kX6_knocks.at 57 rfl) 0 rfl ?_
      refine a_dup (kX6_knocks.at 58 rfl) rfl ?_
      refine a_getI (x := M 44 24) (kX6_knocks.at 59 rfl) fg_X6_162 ii_44_24 (rfl) ?_
      refine a_iconst (kX6_knocks.at 60 rfl) rfl ?_
      refine a_iadd (kX6_knocks.at 61 rfl) (inr (by omega)) ?_
      refine a_putI (j := 24) (kX6_knocks.at 62 rfl) fp_X6_162 (ii_44_24) rfl ?_
      exact a_vretE (kX6_knocks.at 63 rfl) (by first | (exfalso; omega) | simp [knocks, knocksX, *])
  · exact a_vretE (kX6_knocks.at 8 rfl) (by first | (exfalso; omega) | simp [knocks, knocksX, *])
theorem best_r (M : Mem) (k : Int) : -1 ≤ best M k ∧ best M k ≤ 9 := by
  have := forR_inv (lo := 0) (hi := 10) (f := knBest M k) (a := (-1 : Int)) (fun h b => -1 ≤ b ∧ b ≤ 9) (by omega) (by omega) (fun h x h1 h2 h3 => by
    unfold knBest
    split <;> omega)
  exact this
theorem Fr_knocks (M : Mem) (q k : Int) : Fr M (knocks M q k) := by
  unfold knocks knocksX
  split
  · split
    · exact (Fr.refl M).up (by omega)
    · exact (((((Fr.refl M).up (by omega)).up (by omega)).up (by omega)).up (by omega)).up (by omega)
  · exact Fr.refl M
theorem RG_knocks {M : Mem} {B : Int} (h : RG M B) (q k : Int) (hk : 0 ≤ k ∧ k < M 44 7) : RG (knocks M q k) (B + 1) := by
  have hb := best_r M k
  have hk2 := h.2.1 k hk.1 hk.2
  have ha := apart_r hb hk2.1
  have ha9 : best M k ≠ -1 → apart (best M k) (M 52 k) ≤ 9 := fun hne => by unfold apart; split <;> omega
  unfold knocks knocksX
  split
  · split
    · refine ⟨h.1, fun j h0 h1 => ?_, (show 0 ≤ M 44 24 + 1 ∧ M 44 24 + 1 ≤ B + 1 by have := h.2.2; omega), (show 0 ≤ M 44 25 ∧ M 44 25 ≤ 9 * (B + 1) by have := h.2.2; omega)⟩
      have hj := h.2.1 j h0 h1
      show (0 ≤ M 52 j ∧ M 52 j ≤ 9) ∧ (0 ≤ M 54 j ∧ M 54 j ≤ B + 1) ∧ (0 ≤ M 55 j ∧ M 55 j ≤ B + 1)
      omega
    · rename_i hne
      have ha9 := ha9 hne
      refine ⟨h.1, fun j h0 h1 => ?_, (show 0 ≤ M 44 24 ∧ M 44 24 ≤ B + 1 by have := h.2.2; omega), (show 0 ≤ M 44 25 + apart (best M k) (M 52 k) ∧ M 44 25 + apart (best M k) (M 52 k) ≤ 9 * (B + 1) by have := h.2.2; omega)⟩
      have hj := h.2.1 j h0 h1
      show (0 ≤ ups (M 52) k (best M k) j ∧ ups (M 52) k (best M k) j ≤ 9) ∧ (0 ≤ ups (M 54) k (M 54 k + 1) j ∧ ups (M 54) k (M 54 k + 1) j ≤ B + 1) ∧ (0 ≤ M 55 j ∧ M 55 j ≤ B + 1)
      unfold ups
      split <;> omega
  · exact h.mono (by omega)
