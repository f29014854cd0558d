/-! ===== the reference: people as a text ===== -/
noncomputable def figureOf (b m : Int) : Int := if 48 ≤ b ∧ b ≤ 48 + m then b - 48 else -9
theorem c_figureOf (G : GT) (M : Mem) (b m : Int) (hb : 0 ≤ b ∧ b ≤ 255) (hm : 0 ≤ m ∧ m ≤ 9) : AM G yX6_figureOf cX6_figureOf 2 (some .int) 1 M [vI b, vI m] (qI (figureOf b m) M) := by
  refine AM.mk (own := RX6) rfl ss_X6_figureOf.1.2.2.2.2.2 (Nat.le_of_ble_eq_true rfl) rfl ?_
  refine a_iload_n (kX6_figureOf.at 0 rfl) 0 rfl ?_
  refine a_i2l (kX6_figureOf.at 1 rfl) ?_
  refine a_ldc2 (kX6_figureOf.at 2 rfl) cl_X6_103 (48) rfl ⟨by decide, by decide⟩ ?_
  refine a_bipush (kX6_figureOf.at 3 rfl) rfl rfl ?_
  refine a_iload_n (kX6_figureOf.at 4 rfl) 1 rfl ?_
  refine a_iadd (kX6_figureOf.at 5 rfl) (inr (by omega)) ?_
  refine a_i2l (kX6_figureOf.at 6 rfl) ?_
  refine AW.callS (as := [vL b, vL 48, vL (48 + m)]) (st := []) (kX6_figureOf.at 7 rfl) ml_X6_70 ss_X6_in ⟨Nat.le_of_ble_eq_true rfl, Nat.le_of_ble_eq_true rfl⟩ ⟨Nat.le_refl _, Nat.le_refl _⟩ rfl rfl (Nat.le_of_ble_eq_true rfl) (c_in G M b 48 (48 + m)) (kIE ?_)
  refine a_ifeqB (tgt := 23) (kX6_figureOf.at 8 rfl) (by decide) (fun h13 => ?_) (fun h13 => ?_)
  · refine a_bipush (kX6_figureOf.at 13 rfl) rfl rfl ?_
    exact a_iretE (kX6_figureOf.at 14 rfl) (⟨by simp [figureOf, *], rfl⟩)
  · refine a_iload_n (kX6_figureOf.at 9 rfl) 0 rfl ?_
    refine a_bipush (kX6_figureOf.at 10 rfl) rfl rfl ?_
    refine a_isub (kX6_figureOf.at 11 rfl) (inr (by omega)) ?_
    refine a_goto (tgt := 25) (kX6_figureOf.at 12 rfl) (by decide) ?_
    exact a_iretE (kX6_figureOf.at 14 rfl) (⟨by simp [figureOf, *], rfl⟩)
noncomputable def isTakenS (M : Mem) (h : Int) : Int → Int → Int := fun k is => if is ≠ 0 ∨ M 50 (3 * k + 2) = h then 1 else 0
noncomputable def isTaken (M : Mem) (h : Int) : Int := forR 0 (M 44 7) (isTakenS M h) 0
set_option maxHeartbeats 4000000 in
set_option maxRecDepth 100000 in
theorem l_isTaken (G : GT) (M : Mem) (h : Int) (X : XT) (hp : 0 ≤ M 44 7 ∧ M 44 7 ≤ 8) (hlohi : (0 : Int) ≤ (M 44 7)) (kk : ((forR 0 (M 44 7) (isTakenS M h) 0) = 0 ∨ (forR 0 (M 44 7) (isTakenS M h) 0) = 1) → AW G RX6 cX6_isTaken 4 (some .boolean) X 42 [(0, vR 44), (1, vI h), (2, vI (forR 0 (M 44 7) (isTakenS M h) 0)), (3, vI (M 44 7))] [] M) : AW G RX6 cX6_isTaken 4 (some .boolean) X 4 [(0, vR 44), (1, vI h), (2, vI 0), (3, vI 0)] [] M := by
  have key : ∀ (nn : Nat) (k : Int) (is : Int), (0 : Int) ≤ k → k ≤ (M 44 7) → is = forR 0 k (isTakenS M h) 0 → (is = 0 ∨ is = 1) → (M 44 7) - k < nn → AW G RX6 cX6_isTaken 4 (some .boolean) X 4 [(0, vR 44), (1, vI h), (2, vI is), (3, vI k)] [] M := by
    intro nn
    induction nn with
    | zero => intro k is hk0 hk1 e_is hb hn; omega
    | succ nn ih =>
      intro k is hk0 hk1 e_is hb hn
      refine a_iload_n (kX6_isTaken.at 4 rfl) 3 rfl ?_
      refine a_aload_n (kX6_isTaken.at 5 rfl) 0 rfl ?_
      refine a_getI (x := M 44 7) (kX6_isTaken.at 6 rfl) fg_X6_105 ii_44_7 (rfl) ?_
      refine a_icmpge (tgt := 42) (kX6_isTaken.at 7 rfl) (by decide) (fun h9 => ?_) (fun h9 => ?_)
      · obtain rfl : k = M 44 7 := by omega
        subst e_is
        exact kk hb
      · refine a_iload_n (kX6_isTaken.at 8 rfl) 2 rfl ?_
        refine a_ifne (tgt := 30) (kX6_isTaken.at 9 rfl) (by decide) (fun h13 => ?_) (fun h13 => ?_)
        · refine a_iconst (kX6_isTaken.at 20 rfl) rfl ?_
          refine a_goto (tgt := 35) (kX6_isTaken.at 21 rfl) (by decide) ?_
          refine a_istore_n (ls' := [(0, vR 44), (1, vI h), (2, vI 1), (3, vI k)]) (kX6_isTaken.at 23 rfl) (by decide) rfl ?_
          refine a_iinc (ls' := [(0, vR 44), (1, vI h), (2, vI 1), (3, vI (k + 1))]) (kX6_isTaken.at 24 rfl) 3 rfl (by decide) (inr (by omega)) rfl ?_
          refine a_goto (tgt := 4) (kX6_isTaken.at 25 rfl) (by decide) ?_
          exact ih ((k + 1)) (1) (by omega) (by omega) (by rw [forR_succ hk0, ← e_is] <;> (clear ih kk e_is; first | (exfalso; omega) | (unfold isTakenS; simp [*]))) (by omega) (by omega)
        · refine a_aload_n (kX6_isTaken.at 10 rfl) 0 rfl ?_
          refine a_getR (kX6_isTaken.at 11 rfl) fg_X6_25 ir_44_8 ?_
          refine a_iconst (kX6_isTaken.at 12 rfl) rfl ?_
          refine a_iload_n (kX6_isTaken.at 13 rfl) 3 rfl ?_
          refine a_imul (kX6_isTaken.at 14 rfl) (inr (by omega)) ?_
          refine a_iconst (kX6_isTaken.at 15 rfl) rfl ?_
          refine a_iadd (kX6_isTaken.at 16 rfl) (inr (by omega)) ?_
          refine a_iald (x := M 50 ((3 * k) + 2)) (kX6_isTaken.at 17 rfl) (ia_50) (by omega) (rfl) ?_
          refine a_iload_n (kX6_isTaken.at 18 rfl) 1 rfl ?_
          refine a_icmpne (tgt := 34) (kX6_isTaken.at 19 rfl) (by decide) (fun h27 => ?_) (fun h27 => ?_)
          · refine a_iconst (kX6_isTaken.at 22 rfl) rfl ?_
            refine a_istore_n (ls' := [(0, vR 44), (1, vI h), (2, vI 0), (3, vI k)]) (kX6_isTaken.at 23 rfl) (by decide) rfl ?_
            refine a_iinc (ls' := [(0, vR 44), (1, vI h), (2, vI 0), (3, vI (k + 1))]) (kX6_isTaken.at 24 rfl) 3 rfl (by decide) (inr (by omega)) rfl ?_
            refine a_goto (tgt := 4) (kX6_isTaken.at 25 rfl) (by decide) ?_
            exact ih ((k + 1)) (0) (by omega) (by omega) (by rw [forR_succ hk0, ← e_is] <;> (clear ih kk e_is; first | (exfalso; omega) | (unfold isTakenS; simp [*]))) (by omega) (by omega)
          · refine a_iconst (kX6_isTaken.at 20 rfl) rfl ?_
            refine a_goto (tgt := 35) (kX6_isTaken.at 21 rfl) (by decide) ?_
            refine a_istore_n (ls' := [(0, vR 44), (1, vI h), (2, vI 1), (3, vI k)]) (kX6_isTaken.at 23 rfl) (by decide) rfl ?_
            refine a_iinc (ls' := [(0, vR 44), (1, vI h), (2, vI 1), (3, vI (k + 1))]) (kX6_isTaken.at 24 rfl) 3 rfl (by decide) (inr (by omega)) rfl ?_
            refine a_goto (tgt := 4) (kX6_isTaken.at 25 rfl) (by decide) ?_
            exact ih ((k + 1)) (1) (by omega) (by omega) (by rw [forR_succ hk0, ← e_is] <;> (clear ih kk e_is; first | (exfalso; omega) | (unfold isTakenS; simp [*]))) (by omega) (by omega)
  exact key ((M 44 7) - (0) + 1 : Int).toNat (0) 0 (Int.le_refl _) hlohi (forR_nil (Int.le_refl _)).symm (Or.inl rfl) (by omega)
theorem c_isTaken (G : GT) (M : Mem) (h : Int) (hp : 0 ≤ M 44 7 ∧ M 44 7 ≤ 8) : AM G yX6_isTaken cX6_isTaken 4 (some .boolean) 0 M [vR 44, vI h] (qI (isTaken M h) M) := by
  refine AM.mk (own := RX6) rfl sv_X6_isTaken.1.2.2.2.2.2 (Nat.le_of_ble_eq_true rfl) rfl ?_
  refine a_iconst (kX6_isTaken.at 0 rfl) rfl ?_
  refine a_istore_n (ls' := [(0, vR 44), (1, vI h), (2, vI 0)]) (kX6_isTaken.at 1 rfl) (by decide) rfl ?_
  refine a_iconst (kX6_isTaken.at 2 rfl) rfl ?_
  refine a_istore_n (ls' := [(0, vR 44), (1, vI h), (2, vI 0), (3, vI 0)]) (kX6_isTaken.at 3 rfl) (by decide) rfl ?_
  refine l_isTaken G M h _ hp (by omega) ?_
  intro hb
  show AW _ _ _ _ _ _ 42 [(0, vR 44), (1, vI h), (2, vI (isTaken M h)), (3, vI (M 44 7))] [] M
  change isTaken M h = 0 ∨ isTaken M h = 1 at hb
  refine a_iload_n (kX6_isTaken.at 26 rfl) 2 rfl ?_
  exact a_zretE (kX6_isTaken.at 27 rfl) (by first | exact Or.inl rfl | exact Or.inr rfl | omega) (⟨rfl, rfl⟩)
noncomputable def byteOf (M : Mem) (k b : Int) : Int := if k = 0 then (if b = 115 then 0 else if b = 116 then 1 else if b = 110 then 2 else -9) else if k = 1 then figureOf b 7 else if k = 2 then (if isTaken M (b - 48) = 0 then figureOf b 9 else -9) else if b = 59 then 0 else -9
theorem c_byteOf (G : GT) (M : Mem) (k b : Int) (hp : 0 ≤ M 44 7 ∧ M 44 7 ≤ 8) (hb : 0 ≤ b ∧ b ≤ 255) : AM G yX6_byteOf cX6_byteOf 3 (some .int) 2 M [vR 44, vI k, vI b] (qI (byteOf M k b) M) := by
  refine AM.mk (own := RX6) rfl sv_X6_byteOf.1.2.2.2.2.2 (Nat.le_of_ble_eq_true rfl) rfl ?_
  refine a_iload_n (kX6_byteOf.at 0 rfl) 1 rfl ?_
  refine a_ifne (tgt := 37) (kX6_byteOf.at 1 rfl) (by decide) (fun h1 => ?_) (fun h1 => ?_)
  · refine a_iload_n (kX6_byteOf.at 19 rfl) 1 rfl ?_
    refine a_iconst (kX6_byteOf.at 20 rfl) rfl ?_
    refine a_icmpne (tgt := 49) (kX6_byteOf.at 21 rfl) (by decide) (fun h39 => ?_) (fun h39 => ?_)
    · refine a_iload_n (kX6_byteOf.at 26 rfl) 1 rfl ?_
      refine a_iconst (kX6_byteOf.at 27 rfl) rfl ?_
      refine a_icmpne (tgt := 77) (kX6_byteOf.at 28 rfl) (by decide) (fun h51 => ?_) (fun h51 => ?_)
      · refine a_iload_n (kX6_byteOf.at 41 rfl) 2 rfl ?_
        refine a_bipush (kX6_byteOf.at 42 rfl) rfl rfl ?_
        refine a_icmpne (tgt := 87) (kX6_byteOf.at 43 rfl) (by decide) (fun h80 => ?_) (fun h80 => ?_)
        · refine a_bipush (kX6_byteOf.at 46 rfl) rfl rfl ?_
          exact a_iretE (kX6_byteOf.at 47 rfl) (⟨by simp [byteOf, *], rfl⟩)
        · refine a_iconst (kX6_byteOf.at 44 rfl) rfl ?_
          refine a_goto (tgt := 89) (kX6_byteOf.at 45 rfl) (by decide) ?_
          exact a_iretE (kX6_byteOf.at 47 rfl) (⟨by simp [byteOf, *], rfl⟩)
      · refine a_aload_n (kX6_byteOf.at 29 rfl) 0 rfl ?_
        refine a_iload_n (kX6_byteOf.at 30 rfl) 2 rfl ?_
        refine a_bipush (kX6_byteOf.at 31 rfl) rfl rfl ?_
        refine a_isub (kX6_byteOf.at 32 rfl) (inr (by omega)) ?_
        refine AW.callV (as := [vI (b - 48)]) (st := []) (kX6_byteOf.at 33 rfl) ml_X6_111 sv_X6_isTaken (k := 44) (io_44) rfl rfl ⟨Nat.le_of_ble_eq_true rfl, Nat.le_of_ble_eq_true rfl⟩ ⟨Nat.le_refl _, Nat.le_refl _⟩ rfl rfl (Nat.le_of_ble_eq_true rfl) (c_isTaken G M (b - 48) (by omega)) (kIE ?_)
        refine a_ifeq (tgt := 70) (kX6_byteOf.at 34 rfl) (by decide) (fun h62 => ?_) (fun h62 => ?_)
        · refine a_iload_n (kX6_byteOf.at 37 rfl) 2 rfl ?_
          refine a_bipush (kX6_byteOf.at 38 rfl) rfl rfl ?_
          refine AW.callS (as := [vI b, vI 9]) (st := []) (kX6_byteOf.at 39 rfl) ml_X6_108 ss_X6_figureOf ⟨Nat.le_of_ble_eq_true rfl, Nat.le_of_ble_eq_true rfl⟩ ⟨Nat.le_refl _, Nat.le_refl _⟩ rfl rfl (Nat.le_of_ble_eq_true rfl) (c_figureOf G M b 9 (by omega) (by omega)) (kIE ?_)
          exact a_iretE (kX6_byteOf.at 40 rfl) (⟨by simp [byteOf, *], rfl⟩)
        · refine a_bipush (kX6_byteOf.at 35 rfl) rfl rfl ?_
          refine a_goto (tgt := 76) (kX6_byteOf.at 36 rfl) (by decide) ?_
          exact a_iretE (kX6_byteOf.at 40 rfl) (⟨by simp [byteOf, *], rfl⟩)
    · refine a_iload_n (kX6_byteOf.at 22 rfl) 2 rfl ?_
      refine a_bipush (kX6_byteOf.at 23 rfl) rfl rfl ?_
      refine AW.callS (as := [vI b, vI 7]) (st := []) (kX6_byteOf.at 24 rfl) ml_X6_108 ss_X6_figureOf ⟨Nat.le_of_ble_eq_true rfl, Nat.le_of_ble_eq_true rfl⟩ ⟨Nat.le_refl _, Nat.le_refl _⟩ rfl rfl (Nat.le_of_ble_eq_true rfl) (c_figureOf G M b 7 (by omega) (by omega)) (kIE ?_)
      exact a_iretE (kX6_byteOf.at 25 rfl) (⟨by simp [byteOf, *], rfl⟩)
  · refine a_iload_n (kX6_byteOf.at 2 rfl) 2 rfl ?_
    refine a_bipush (kX6_byteOf.at 3 rfl) rfl rfl ?_
    refine a_icmpne (tgt := 14) (kX6_byteOf.at 4 rfl) (by decide) (fun h7 => ?_) (fun h7 => ?_)
    · refine a_iload_n (kX6_byteOf.at 7 rfl) 2 rfl ?_
      refine a_bipush (kX6_byteOf.at 8 rfl) rfl rfl ?_
      refine a_icmpne (tgt := 24) (kX6_byteOf.at 9 rfl) (by decide) (fun h17 => ?_) (fun h17 => ?_)
      · refine a_iload_n (kX6_byteOf.at 12 rfl) 2 rfl ?_
        refine a_bipush (kX6_byteOf.at 13 rfl) rfl rfl ?_
        refine a_icmpne (tgt := 34) (kX6_byteOf.at 14 rfl) (by decide) (fun h27 => ?_) (fun h27 => ?_)
        · refine a_bipush (kX6_byteOf.at 17 rfl) rfl rfl ?_
          exact a_iretE (kX6_byteOf.at 18 rfl) (⟨by simp [byteOf, *], rfl⟩)
        · refine a_iconst (kX6_byteOf.at 15 rfl) rfl ?_
          refine a_goto (tgt := 36) (kX6_byteOf.at 16 rfl) (by decide) ?_
          exact a_iretE (kX6_byteOf.at 18 rfl) (⟨by simp [byteOf, *], rfl⟩)
      · refine a_iconst (kX6_byteOf.at 10 rfl) rfl ?_
        refine a_goto (tgt := 36) (kX6_byteOf.at 11 rfl) (by decide) ?_
        exact a_iretE (kX6_byteOf.at 18 rfl) (⟨by simp [byteOf, *], rfl⟩)
    · refine a_iconst (kX6_byteOf.at 5 rfl) rfl ?_
      refine a_goto (tgt := 36) (kX6_byteOf.at 6 rfl) (by decide) ?_
      exact a_iretE (kX6_byteOf.at 18 rfl) (⟨by simp [byteOf, *], rfl⟩)
/-- a byte that may stand there is taken in -/
noncomputable def rdT (N : Mem) (i v : Int) : Mem := upm (if i % 4 < 3 then upm N 50 (3 * (i / 4) + i % 4) v else N) 44 7 (N 44 7 + (if i % 4 = 2 then 1 else 0))
noncomputable def rdF : Int → Mem × Int → Mem × Int := fun i s => if s.2 ≠ -1 then s else if byteOf s.1 (i % 4) (s.1 49 i) = -9 then (upm s.1 44 7 0, i) else (rdT s.1 i (byteOf s.1 (i % 4) (s.1 49 i)), -1)
noncomputable def rdA (M : Mem) (i : Int) : Mem × Int := forR 0 i rdF (upm M 44 7 0, -1)
noncomputable def reads0 (M : Mem) : Mem × Int := if (rdA M (M 44 6)).2 ≠ -1 then rdA M (M 44 6) else if 0 < M 44 6 ∧ M 44 6 % 4 ≠ 3 then (upm (rdA M (M 44 6)).1 44 7 0, M 44 6) else rdA M (M 44 6)
theorem reads_ex : ∃ f : Mem → Mem × Int, ∀ M, f M = reads0 M := ⟨reads0, fun _ => rfl⟩
noncomputable def reads : Mem → Mem × Int := Classical.choose reads_ex
theorem reads_eq (M : Mem) : reads M = reads0 M := Classical.choose_spec reads_ex M
theorem rdA_0 (M : Mem) : rdA M 0 = (upm M 44 7 0, -1) := forR_nil (Int.le_refl 0)
theorem rdA_s (M : Mem) {i : Int} (h : 0 ≤ i) : rdA M (i + 1) = rdF i (rdA M i) := forR_succ h
theorem rdA_stay (M : Mem) {i j : Int} (h0 : 0 ≤ i) (hij : i ≤ j) (hf : (rdA M i).2 ≠ -1) : rdA M j = rdA M i := by
  have key : ∀ n : Nat, rdA M (i + n) = rdA M i := by
    intro n
    induction n with
    | zero => simp
    | succ n ih =>
      rw [show i + ((n + 1 : Nat) : Int) = (i + n) + 1 by omega, rdA_s M (by omega), ih]
      unfold rdF
      rw [if_pos hf]
  have := key (j - i).toNat
  rw [show i + (((j - i).toNat : Nat) : Int) = j by omega] at this
  exact this
/-- what reads() leaves alone -/
noncomputable def Ft (M N : Mem) : Prop := ∀ (c : Nat) (j : Int), c ≠ 50 → ¬ (c = 44 ∧ j = 7) → N c j = M c j
theorem Ft.refl (M : Mem) : Ft M M := fun _ _ _ _ => rfl
theorem Ft.trans {M N K : Mem} (h1 : Ft M N) (h2 : Ft N K) : Ft M K := fun c j a b => (h2 c j a b).trans (h1 c j a b)
theorem Ft.up {M N : Mem} (h : Ft M N) {c : Nat} {j v : Int} (hc : c = 50 ∨ (c = 44 ∧ j = 7)) : Ft M (upm N c j v) := by
  intro c' j' a b
  rw [← h c' j' a b]
  by_cases e : c' = c
  · subst e
    rw [upm_same, ups_ne (by omega)]
  · rw [upm_ne e]
theorem Ft_rdT (N : Mem) (i v : Int) : Ft N (rdT N i v) := by
  unfold rdT
  split
  · exact ((Ft.refl N).up (by omega)).up (by omega)
  · exact (Ft.refl N).up (by omega)
theorem Ft_rdF (i : Int) (s : Mem × Int) : Ft s.1 (rdF i s).1 := by
  unfold rdF
  split
  · exact Ft.refl _
  · split
    · exact (Ft.refl _).up (by omega)
    · exact Ft_rdT _ _ _
theorem Ft_rdA (M : Mem) {i : Int} (h : 0 ≤ i) : Ft M (rdA M i).1 := by
  unfold rdA
  exact forR_inv (f := rdF) (a := (upm M 44 7 0, (-1 : Int))) (fun _ s => Ft M s.1) h (Ft.up (c := 44) (j := 7) (Ft.refl M) (by omega)) (fun k s _ _ hs => hs.trans (Ft_rdF k s))
theorem Ft_reads (M : Mem) (h : 0 ≤ M 44 6) : Ft M (reads M).1 := by
  rw [reads_eq]
  unfold reads0
  split
  · exact Ft_rdA M h
  · split
    · exact (Ft_rdA M h).up (by omega)
    · exact Ft_rdA M h
theorem figureOf_r {b m : Int} (h : figureOf b m ≠ -9) : 0 ≤ figureOf b m ∧ figureOf b m ≤ m := by
  unfold figureOf at h ⊢
  split at h
  · rename_i hc
    rw [if_pos hc]
    omega
  · omega
/-- how many there are behind i bytes; their houses -/
theorem rdA_people (M : Mem) {i : Int} (h : 0 ≤ i) (hf : (rdA M i).2 = -1) : (rdA M i).1 44 7 = (i + 1) / 4 ∧ ∀ k, 0 ≤ k → k < (i + 1) / 4 → 0 ≤ (rdA M i).1 50 (3 * k + 2) ∧ (rdA M i).1 50 (3 * k + 2) ≤ 9 := by
  have key : (rdA M i).2 = -1 → (rdA M i).1 44 7 = (i + 1) / 4 ∧ ∀ k, 0 ≤ k → k < (i + 1) / 4 → 0 ≤ (rdA M i).1 50 (3 * k + 2) ∧ (rdA M i).1 50 (3 * k + 2) ≤ 9 := by
    refine forR_inv (lo := 0) (hi := i) (f := rdF) (a := (upm M 44 7 0, (-1 : Int))) (fun i s => s.2 = -1 → s.1 44 7 = (i + 1) / 4 ∧ ∀ k, 0 ≤ k → k < (i + 1) / 4 → 0 ≤ s.1 50 (3 * k + 2) ∧ s.1 50 (3 * k + 2) ≤ 9) h (fun _ => ⟨rfl, fun k a b => by omega⟩) ?_
    intro j s h1 h2 hs hf
    unfold rdF at hf ⊢
    split at hf
    · contradiction
    · rename_i hs2
      have hs1 := hs (Decidable.not_not.mp hs2)
      rw [if_neg hs2]
      split at hf
      · simp only at hf
        omega
      · rename_i hv
        rw [if_neg hv]
        show (rdT s.1 j (byteOf s.1 (j % 4) (s.1 49 j))) 44 7 = _ ∧ ∀ k, 0 ≤ k → k < (j + 1 + 1) / 4 → 0 ≤ (rdT s.1 j (byteOf s.1 (j % 4) (s.1 49 j))) 50 (3 * k + 2) ∧ (rdT s.1 j (byteOf s.1 (j % 4) (s.1 49 j))) 50 (3 * k + 2) ≤ 9
        generalize hw : byteOf s.1 (j % 4) (s.1 49 j) = v at hv
        refine ⟨?_, fun k a b => ?_⟩
        · show s.1 44 7 + _ = _
          rw [hs1.1]
          split <;> omega
        · unfold rdT
          rw [upm_ne (by decide)]
          by_cases h3 : j % 4 < 3
          · rw [if_pos h3, upm_same]
            by_cases h4 : 3 * k + 2 = 3 * (j / 4) + j % 4
            · rw [h4, ups_same]
              have hj2 : j % 4 = 2 := by omega
              rw [hj2] at hw
              unfold byteOf at hw
              simp at hw
              split at hw
              · rw [← hw] at hv ⊢
                exact figureOf_r hv
              · omega
            · rw [ups_ne h4]
              exact hs1.2 k a (by omega)
          · rw [if_neg h3]
            exact hs1.2 k a (by omega)
  exact key hf
theorem reads_PG (M : Mem) (h : 0 ≤ M 44 6 ∧ M 44 6 ≤ 31) : PG (reads M).1 := by
  have h0 : ∀ N : Mem, PG (upm N 44 7 0) := fun N => ⟨⟨Int.le_refl 0, (show (0 : Int) ≤ 8 by decide)⟩, fun k a b => by
    have : k < 0 := b
    omega⟩
  rw [reads_eq]
  unfold reads0
  split
  · rename_i hf
    -- the fault's memory has no people
    have key : (rdA M (M 44 6)).2 = -1 ∨ ∃ N, (rdA M (M 44 6)).1 = upm N 44 7 0 := by
      refine forR_inv (lo := 0) (hi := M 44 6) (f := rdF) (a := (upm M 44 7 0, (-1 : Int))) (fun i s => s.2 = -1 ∨ ∃ N, s.1 = upm N 44 7 0) h.1 (Or.inl rfl) ?_
      intro j s h1 h2 hs
      unfold rdF
      split
      · exact hs
      · split
        · exact Or.inr ⟨_, rfl⟩
        · exact Or.inl rfl
    rcases key with hk | ⟨N, hk⟩
    · exact absurd hk hf
    · rw [hk]; exact h0 N
  · rename_i hf
    split
    · exact h0 _
    · have hp := rdA_people M h.1 (Decidable.not_not.mp hf)
      refine ⟨by rw [hp.1]; omega, fun k a b => hp.2 k a (by rw [hp.1] at b; exact b)⟩
theorem rdF_bad {N : Mem} {i : Int} (h : byteOf N (i % 4) (N 49 i) = -9) : rdF i (N, -1) = (upm N 44 7 0, i) := by unfold rdF; simp [h]
theorem rdF_ok {N : Mem} {i : Int} (h : ¬ byteOf N (i % 4) (N 49 i) = -9) : rdF i (N, -1) = (rdT N i (byteOf N (i % 4) (N 49 i)), -1) := by unfold rdF; simp [h]
theorem rdT_3 {N : Mem} {i v : Int} (h : 3 ≤ i % 4) : rdT N i v = upm N 44 7 (N 44 7 + 0) := by unfold rdT; rw [if_neg (show ¬ i % 4 < 3 by omega), if_neg (show ¬ i % 4 = 2 by omega)]
theorem rdT_2 {N : Mem} {i v : Int} (h : i % 4 = 2) : rdT N i v = upm (upm N 50 (3 * (i / 4) + i % 4) v) 44 7 (N 44 7 + 1) := by unfold rdT; rw [if_pos (show i % 4 < 3 by omega), if_pos h]
theorem rdT_01 {N : Mem} {i v : Int} (h : ¬ 3 ≤ i % 4) (h2 : ¬ i % 4 = 2) : rdT N i v = upm (upm N 50 (3 * (i / 4) + i % 4) v) 44 7 (N 44 7 + 0) := by unfold rdT; rw [if_pos (show i % 4 < 3 by omega), if_neg h2]
theorem reads_mid {M N : Mem} (e : rdA M (M 44 6) = (N, -1)) (h : 0 < M 44 6 ∧ M 44 6 % 4 ≠ 3) : reads M = (upm N 44 7 0, M 44 6) := by rw [reads_eq]; unfold reads0; rw [e, if_neg (by simp), if_pos h]
theorem reads_ok {M N : Mem} (e : rdA M (M 44 6) = (N, -1)) (h : ¬ (0 < M 44 6 ∧ M 44 6 % 4 ≠ 3)) : reads M = (N, -1) := by rw [reads_eq]; unfold reads0; rw [e, if_neg (by simp), if_neg h]
theorem a_reads87 (G : GT) (M N : Mem) (ht : 0 ≤ M 44 6 ∧ M 44 6 ≤ 31) (e : rdA M (M 44 6) = (N, -1)) (hN6 : N 44 6 = M 44 6) : AW G RX6 cX6_reads 4 (some .int) (XM G 3 (qI (reads M).2 (reads M).1)) 87 [(0, vR 44), (1, vI (M 44 6))] [] N := by
  refine a_aload_n (kX6_reads.at 56 rfl) 0 rfl ?_
  refine a_getI (x := N 44 6) (kX6_reads.at 57 rfl) fg_X6_100 ii_44_6 (rfl) ?_
  refine a_ifle (tgt := 114) (kX6_reads.at 58 rfl) (by decide) (fun h91 => ?_) (fun h91 => ?_)
  · refine a_iconst (kX6_reads.at 71 rfl) rfl ?_
    exact a_iretE (kX6_reads.at 72 rfl) (by first | (rw [reads_ok e (by omega)]; exact ⟨rfl, rfl⟩) | (rw [reads_mid e (by omega)]; exact ⟨hN6, rfl⟩))
  · refine a_aload_n (kX6_reads.at 59 rfl) 0 rfl ?_
    refine a_getI (x := N 44 6) (kX6_reads.at 60 rfl) fg_X6_100 ii_44_6 (rfl) ?_
    refine a_iconst (kX6_reads.at 61 rfl) rfl ?_
    refine a_irem (kX6_reads.at 62 rfl) (by omega) (by omega) ?_
    refine a_iconst (kX6_reads.at 63 rfl) rfl ?_
    refine a_icmpeq (tgt := 114) (kX6_reads.at 64 rfl) (by decide) (fun h101 => ?_) (fun h101 => ?_)
    · refine a_iconst (kX6_reads.at 71 rfl) rfl ?_
      exact a_iretE (kX6_reads.at 72 rfl) (by first | (rw [reads_ok e (by omega)]; exact ⟨rfl, rfl⟩) | (rw [reads_mid e (by omega)]; exact ⟨hN6, rfl⟩))
    · refine a_aload_n (kX6_reads.at 65 rfl) 0 rfl ?_
      refine a_iconst (kX6_reads.at 66 rfl) rfl ?_
      refine a_putI (j := 7) (kX6_reads.at 67 rfl) fp_X6_105 (ii_44_7) rfl ?_
      refine a_aload_n (kX6_reads.at 68 rfl) 0 rfl ?_
      refine a_getI (x := N 44 6) (kX6_reads.at 69 rfl) fg_X6_100 ii_44_6 (rd_ni (by decide)) ?_
      exact a_iretE (kX6_reads.at 70 rfl) (by first | (rw [reads_ok e (by omega)]; exact ⟨rfl, rfl⟩) | (rw [reads_mid e (by omega)]; exact ⟨hN6, rfl⟩))
set_option maxHeartbeats 4000000 in
set_option maxRecDepth 100000 in
theorem l_reads (G : GT) (M : Mem) (ht : 0 ≤ M 44 6 ∧ M 44 6 ≤ 31) (hb : ∀ i, 0 ≤ i → i < M 44 6 → 0 ≤ M 49 i ∧ M 49 i ≤ 255) : ∀ (n : Nat) (i : Int) (N : Mem), 0 ≤ i → i ≤ M 44 6 → rdA M i = (N, -1) → M 44 6 - i < n → AW G RX6 cX6_reads 4 (some .int) (XM G 3 (qI (reads M).2 (reads M).1)) 7 [(0, vR 44), (1, vI i)] [] N := by
  intro n
  induction n with
  | zero => intro i N h0 h1 e hn; omega
  | succ n ih =>
    intro i N h0 h1 e hn
    have hF : Ft M N := by have := Ft_rdA M h0; rw [e] at this; exact this
    have hN6 := hF 44 6 (by decide) (by omega)
    have hN49 := hF 49 i (by decide) (by omega)
    have hN7 : N 44 7 = (i + 1) / 4 := by have := (rdA_people M h0 (by rw [e])).1; rw [e] at this; exact this
    have hbi := hb i h0
    have es : rdA M (i + 1) = rdF i (N, -1) := by rw [rdA_s M h0, e]
    refine a_iload_n (kX6_reads.at 5 rfl) 1 rfl ?_
    refine a_aload_n (kX6_reads.at 6 rfl) 0 rfl ?_
    refine a_getI (x := N 44 6) (kX6_reads.at 7 rfl) fg_X6_100 ii_44_6 (rfl) ?_
    refine a_icmpge (tgt := 87) (kX6_reads.at 8 rfl) (by decide) (fun h12 => ?_) (fun h12 => ?_)
    · obtain rfl : i = M 44 6 := by omega
      exact a_reads87 G M N ht e hN6
    · refine a_iload_n (kX6_reads.at 9 rfl) 1 rfl ?_
      refine a_iconst (kX6_reads.at 10 rfl) rfl ?_
      refine a_irem (kX6_reads.at 11 rfl) (by omega) (by omega) ?_
      refine a_istore_n (ls' := [(0, vR 44), (1, vI i), (2, vI (i % 4))]) (kX6_reads.at 12 rfl) (by decide) rfl ?_
      refine a_aload_n (kX6_reads.at 13 rfl) 0 rfl ?_
      refine a_iload_n (kX6_reads.at 14 rfl) 2 rfl ?_
      refine a_aload_n (kX6_reads.at 15 rfl) 0 rfl ?_
      refine a_getR (kX6_reads.at 16 rfl) fg_X6_22 ir_44_5 ?_
      refine a_iload_n (kX6_reads.at 17 rfl) 1 rfl ?_
      refine a_iald (x := N 49 i) (kX6_reads.at 18 rfl) (ia_49) (by omega) (rfl) ?_
      refine AW.callV (as := [vI (i % 4), vI (N 49 i)]) (st := []) (kX6_reads.at 19 rfl) ml_X6_114 sv_X6_byteOf (k := 44) (io_44) rfl rfl ⟨Nat.le_of_ble_eq_true rfl, Nat.le_of_ble_eq_true rfl⟩ ⟨Nat.le_refl _, Nat.le_refl _⟩ rfl rfl (Nat.le_of_ble_eq_true rfl) (c_byteOf G N (i % 4) (N 49 i) (by omega) (by omega)) (kIE ?_)
      refine a_istore_n (ls' := [(0, vR 44), (1, vI i), (2, vI (i % 4)), (3, vI (byteOf N (i % 4) (N 49 i)))]) (kX6_reads.at 20 rfl) (by decide) rfl ?_
      refine a_iload_n (kX6_reads.at 21 rfl) 3 rfl ?_
      refine a_bipush (kX6_reads.at 22 rfl) rfl rfl ?_
      refine a_icmpne (tgt := 44) (kX6_reads.at 23 rfl) (by decide) (fun h34 => ?_) (fun h34 => ?_)
      · refine a_iload_n (kX6_reads.at 29 rfl) 2 rfl ?_
        refine a_iconst (kX6_reads.at 30 rfl) rfl ?_
        refine a_icmpge (tgt := 62) (kX6_reads.at 31 rfl) (by decide) (fun h46 => ?_) (fun h46 => ?_)
        · refine a_aload_n (kX6_reads.at 43 rfl) 0 rfl ?_
          refine a_dup (kX6_reads.at 44 rfl) rfl ?_
          refine a_getI (x := N 44 7) (kX6_reads.at 45 rfl) fg_X6_105 ii_44_7 (rfl) ?_
          refine a_iload_n (kX6_reads.at 46 rfl) 2 rfl ?_
          refine a_iconst (kX6_reads.at 47 rfl) rfl ?_
          refine a_icmpne (tgt := 76) (kX6_reads.at 48 rfl) (by decide) (fun h69 => ?_) (fun h69 => ?_)
          · refine a_iconst (kX6_reads.at 51 rfl) rfl ?_
            refine a_iadd (kX6_reads.at 52 rfl) (inr (by omega)) ?_
            refine a_putI (j := 7) (kX6_reads.at 53 rfl) fp_X6_105 (ii_44_7) rfl ?_
            refine a_iinc (ls' := [(0, vR 44), (1, vI (i + 1)), (2, vI (i % 4)), (3, vI (byteOf N (i % 4) (N 49 i)))]) (kX6_reads.at 54 rfl) 1 rfl (by decide) (inr (by omega)) rfl ?_
            refine a_goto (tgt := 7) (kX6_reads.at 55 rfl) (by decide) ?_
            refine AW.loc (ls' := [(0, vR 44), (1, vI (i + 1))]) [0, 1] rfl ?_
            exact ih ((i + 1)) ((upm N 44 7 ((N 44 7) + 0))) (by omega) (by omega) (by first | (exfalso; omega) | (rw [es, rdF_ok h34]; first | rw [rdT_3 h46] | rw [rdT_2 h69] | rw [rdT_01 h46 h69])) (by omega)
          · refine a_iconst (kX6_reads.at 49 rfl) rfl ?_
            refine a_goto (tgt := 77) (kX6_reads.at 50 rfl) (by decide) ?_
            refine a_iadd (kX6_reads.at 52 rfl) (inr (by omega)) ?_
            refine a_putI (j := 7) (kX6_reads.at 53 rfl) fp_X6_105 (ii_44_7) rfl ?_
            refine a_iinc (ls' := [(0, vR 44), (1, vI (i + 1)), (2, vI (i % 4)), (3, vI (byteOf N (i % 4) (N 49 i)))]) (kX6_reads.at 54 rfl) 1 rfl (by decide) (inr (by omega)) rfl ?_
            refine a_goto (tgt := 7) (kX6_reads.at 55 rfl) (by decide) ?_
            refine AW.loc (ls' := [(0, vR 44), (1, vI (i + 1))]) [0, 1] rfl ?_
            exact ih ((i + 1)) ((upm N 44 7 ((N 44 7) + 1))) (by omega) (by omega) (by first | (exfalso; omega) | (rw [es, rdF_ok h34]; first | rw [rdT_3 h46] | rw [rdT_2 h69] | rw [rdT_01 h46 h69])) (by omega)
        · refine a_aload_n (kX6_reads.at 32 rfl) 0 rfl ?_
          refine a_getR (kX6_reads.at 33 rfl) fg_X6_25 ir_44_8 ?_
          refine a_iconst (kX6_reads.at 34 rfl) rfl ?_
          refine a_iload_n (kX6_reads.at 35 rfl) 1 rfl ?_
          refine a_iconst (kX6_reads.at 36 rfl) rfl ?_
          refine a_idiv (kX6_reads.at 37 rfl) (by omega) (by omega) ?_
          refine a_imul (kX6_reads.at 38 rfl) (inr (by omega)) ?_
          refine a_iload_n (kX6_reads.at 39 rfl) 2 rfl ?_
          refine a_iadd (kX6_reads.at 40 rfl) (inr (by omega)) ?_
          refine a_iload_n (kX6_reads.at 41 rfl) 3 rfl ?_
          refine a_iast (kX6_reads.at 42 rfl) (ia_50) (by omega) ?_
          refine a_aload_n (kX6_reads.at 43 rfl) 0 rfl ?_
          refine a_dup (kX6_reads.at 44 rfl) rfl ?_
          refine a_getI (x := N 44 7) (kX6_reads.at 45 rfl) fg_X6_105 ii_44_7 (rd_ne (by decide)) ?_
          refine a_iload_n (kX6_reads.at 46 rfl) 2 rfl ?_
          refine a_iconst (kX6_reads.at 47 rfl) rfl ?_
          refine a_icmpne (tgt := 76) (kX6_reads.at 48 rfl) (by decide) (fun h69 => ?_) (fun h69 => ?_)
          · refine a_iconst (kX6_reads.at 51 rfl) rfl ?_
            refine a_iadd (kX6_reads.at 52 rfl) (inr (by omega)) ?_
            refine a_putI (j := 7) (kX6_reads.at 53 rfl) fp_X6_105 (ii_44_7) rfl ?_
            refine a_iinc (ls' := [(0, vR 44), (1, vI (i + 1)), (2, vI (i % 4)), (3, vI (byteOf N (i % 4) (N 49 i)))]) (kX6_reads.at 54 rfl) 1 rfl (by decide) (inr (by omega)) rfl ?_
            refine a_goto (tgt := 7) (kX6_reads.at 55 rfl) (by decide) ?_
            refine AW.loc (ls' := [(0, vR 44), (1, vI (i + 1))]) [0, 1] rfl ?_
            exact ih ((i + 1)) ((upm (upm N 50 ((3 * (i / 4)) + (i % 4)) (byteOf N (i % 4) (N 49 i))) 44 7 ((N 44 7) + 0))) (by omega) (by omega) (by first | (exfalso; omega) | (rw [es, rdF_ok h34]; first | rw [rdT_3 h46] | rw [rdT_2 h69] | rw [rdT_01 h46 h69])) (by omega)
          · refine a_iconst (kX6_reads.at 49 rfl) rfl ?_
            refine a_goto (tgt := 77) (kX6_reads.at 50 rfl) (by decide) ?_
            refine a_iadd (kX6_reads.at 52 rfl) (inr (by omega)) ?_
            refine a_putI (j := 7) (kX6_reads.at 53 rfl) fp_X6_105 (ii_44_7) rfl ?_
            refine a_iinc (ls' := [(0, vR 44), (1, vI (i + 1)), (2, vI (i % 4)), (3, vI (byteOf N (i % 4) (N 49 i)))]) (kX6_reads.at 54 rfl) 1 rfl (by decide) (inr (by omega)) rfl ?_
            refine a_goto (tgt := 7) (kX6_reads.at 55 rfl) (by decide) ?_
            refine AW.loc (ls' := [(0, vR 44), (1, vI (i + 1))]) [0, 1] rfl ?_
            exact ih ((i + 1)) ((upm (upm N 50 ((3 * (i / 4)) + (i % 4)) (byteOf N (i % 4) (N 49 i))) 44 7 ((N 44 7) + 1))) (by omega) (by omega) (by first | (exfalso; omega) | (rw [es, rdF_ok h34]; first | rw [rdT_3 h46] | rw [rdT_2 h69] | rw [rdT_01 h46 h69])) (by omega)
      · refine a_aload_n (kX6_reads.at 24 rfl) 0 rfl ?_
        refine a_iconst (kX6_reads.at 25 rfl) rfl ?_
        refine a_putI (j := 7) (kX6_reads.at 26 rfl) fp_X6_105 (ii_44_7) rfl ?_
        refine a_iload_n (kX6_reads.at 27 rfl) 1 rfl ?_
        exact a_iretE (kX6_reads.at 28 rfl) (by have e2 : rdA M (i + 1) = ((upm N 44 7 0), i) := (by rw [es, rdF_bad h34]); have e3 := rdA_stay M (show 0 ≤ i + 1 by omega) (show i + 1 ≤ M 44 6 by omega) (by rw [e2]; simp only []; omega); have e4 : reads M = ((upm N 44 7 0), i) := (by rw [reads_eq]; unfold reads0; rw [e3, e2, if_pos (by simp only []; omega)]); rw [e4]; exact ⟨rfl, rfl⟩)
theorem c_reads (G : GT) (M : Mem) (ht : 0 ≤ M 44 6 ∧ M 44 6 ≤ 31) (hb : ∀ i, 0 ≤ i → i < M 44 6 → 0 ≤ M 49 i ∧ M 49 i ≤ 255) : AM G yX6_reads cX6_reads 4 (some .int) 3 M [vR 44] (qI (reads M).2 (reads M).1) := by
  refine AM.mk (own := RX6) rfl sv_X6_reads.1.2.2.2.2.2 (Nat.le_of_ble_eq_true rfl) rfl ?_
  refine a_aload_n (kX6_reads.at 0 rfl) 0 rfl ?_
  refine a_iconst (kX6_reads.at 1 rfl) rfl ?_
  refine a_putI (j := 7) (kX6_reads.at 2 rfl) fp_X6_105 (ii_44_7) rfl ?_
  refine a_iconst (kX6_reads.at 3 rfl) rfl ?_
  refine a_istore_n (ls' := [(0, vR 44), (1, vI 0)]) (kX6_reads.at 4 rfl) (by decide) rfl ?_
  exact l_reads G M ht hb 32 0 _ (Int.le_refl 0) ht.1 (rdA_0 M) (by omega)
theorem c_fault (G : GT) (M : Mem) (ht : 0 ≤ M 44 6 ∧ M 44 6 ≤ 31) (hb : ∀ i, 0 ≤ i → i < M 44 6 → 0 ≤ M 49 i ∧ M 49 i ≤ 255) : AM G yX6_fault cX6_fault 1 (some .int) 4 M [vR 44] (qI (reads M).2 (reads M).1) := by
  refine AM.mk (own := RX6) rfl sv_X6_fault.1.2.2.2.2.2 (Nat.le_of_ble_eq_true rfl) rfl ?_
  refine a_aload_n (kX6_fault.at 0 rfl) 0 rfl ?_
  refine AW.callV (as := []) (st := []) (kX6_fault.at 1 rfl) ml_X6_117 sv_X6_reads (k := 44) (io_44) rfl rfl ⟨Nat.le_of_ble_eq_true rfl, Nat.le_of_ble_eq_true rfl⟩ ⟨Nat.le_refl _, Nat.le_refl _⟩ rfl rfl (Nat.le_of_ble_eq_true rfl) (c_reads G M (by omega) hb) (kIE ?_)
  exact a_iretE (kX6_fault.at 2 rfl) (⟨rfl, rfl⟩)
noncomputable def o_person (M : Mem) (k w : Int) : Int := if (0 ≤ k ∧ k ≤ (reads M).1 44 7 - 1) ∧ 0 ≤ w ∧ w ≤ 2 then (reads M).1 50 (3 * k + w) else -2
theorem c_person (G : GT) (M : Mem) (k w : Int) (ht : 0 ≤ M 44 6 ∧ M 44 6 ≤ 31) (hb : ∀ i, 0 ≤ i → i < M 44 6 → 0 ≤ M 49 i ∧ M 49 i ≤ 255) : AM G yX6_person cX6_person 3 (some .int) 4 M [vR 44, vI k, vI w] (qI (o_person M k w) (reads M).1) := by
  refine AM.mk (own := RX6) rfl sv_X6_person.1.2.2.2.2.2 (Nat.le_of_ble_eq_true rfl) rfl ?_
  have hp := (reads_PG M ht).1
  refine a_aload_n (kX6_person.at 0 rfl) 0 rfl ?_
  refine AW.callV (as := []) (st := []) (kX6_person.at 1 rfl) ml_X6_117 sv_X6_reads (k := 44) (io_44) rfl rfl ⟨Nat.le_of_ble_eq_true rfl, Nat.le_of_ble_eq_true rfl⟩ ⟨Nat.le_refl _, Nat.le_refl _⟩ rfl rfl (Nat.le_of_ble_eq_true rfl) (c_reads G M (by omega) hb) (kIE ?_)
  refine a_pop (kX6_person.at 2 rfl) rfl ?_
  refine a_aload_n (kX6_person.at 3 rfl) 0 rfl ?_
  refine a_iload_n (kX6_person.at 4 rfl) 1 rfl ?_
  refine AW.callV (as := [vI k]) (st := []) (kX6_person.at 5 rfl) ml_X6_125 sv_X6_isPerson (k := 44) (io_44) rfl rfl ⟨Nat.le_of_ble_eq_true rfl, Nat.le_of_ble_eq_true rfl⟩ ⟨Nat.le_refl _, Nat.le_refl _⟩ rfl rfl (Nat.le_of_ble_eq_true rfl) (c_isPerson G ((reads M).1) k (by omega)) (kIE ?_)
  refine a_ifeqB (tgt := 38) (kX6_person.at 6 rfl) (by decide) (fun h10 => ?_) (fun h10 => ?_)
  · refine a_bipush (kX6_person.at 22 rfl) rfl rfl ?_
    exact a_iretE (kX6_person.at 23 rfl) (⟨by simp [o_person, *], rfl⟩)
  · refine a_iload_n (kX6_person.at 7 rfl) 2 rfl ?_
    refine a_i2l (kX6_person.at 8 rfl) ?_
    refine a_lconst (kX6_person.at 9 rfl) 0 rfl rfl ?_
    refine a_ldc2 (kX6_person.at 10 rfl) cl_X6_83 (2) rfl ⟨by decide, by decide⟩ ?_
    refine AW.callS (as := [vL w, vL 0, vL 2]) (st := []) (kX6_person.at 11 rfl) ml_X6_70 ss_X6_in ⟨Nat.le_of_ble_eq_true rfl, Nat.le_of_ble_eq_true rfl⟩ ⟨Nat.le_refl _, Nat.le_refl _⟩ rfl rfl (Nat.le_of_ble_eq_true rfl) (c_in G ((reads M).1) w 0 2) (kIE ?_)
    refine a_ifeqB (tgt := 38) (kX6_person.at 12 rfl) (by decide) (fun h22 => ?_) (fun h22 => ?_)
    · refine a_bipush (kX6_person.at 22 rfl) rfl rfl ?_
      exact a_iretE (kX6_person.at 23 rfl) (⟨by simp [o_person, *], rfl⟩)
    · refine a_aload_n (kX6_person.at 13 rfl) 0 rfl ?_
      refine a_getR (kX6_person.at 14 rfl) fg_X6_25 ir_44_8 ?_
      refine a_iconst (kX6_person.at 15 rfl) rfl ?_
      refine a_iload_n (kX6_person.at 16 rfl) 1 rfl ?_
      refine a_imul (kX6_person.at 17 rfl) (inr (by omega)) ?_
      refine a_iload_n (kX6_person.at 18 rfl) 2 rfl ?_
      refine a_iadd (kX6_person.at 19 rfl) (inr (by omega)) ?_
      refine a_iald (x := ((reads M).1) 50 ((3 * k) + w)) (kX6_person.at 20 rfl) (ia_50) (by omega) (rfl) ?_
      refine a_goto (tgt := 40) (kX6_person.at 21 rfl) (by decide) ?_
      exact a_iretE (kX6_person.at 23 rfl) (⟨by simp [o_person, *], rfl⟩)
noncomputable def o_type (M : Mem) (b : Int) : Int × Mem := if 0 ≤ b ∧ b ≤ 255 then (if M 44 6 = 31 then (-4, M) else (M 44 6 + 1, upm (upm M 49 (M 44 6) b) 44 6 (M 44 6 + 1))) else (-2, M)
theorem c_type (G : GT) (M : Mem) (b : Int) (ht : 0 ≤ M 44 6 ∧ M 44 6 ≤ 31) : AM G yX6_type cX6_type 2 (some .int) 1 M [vR 44, vI b] (qI (o_type M b).1 (o_type M b).2) := by
  refine AM.mk (own := RX6) rfl sv_X6_type.1.2.2.2.2.2 (Nat.le_of_ble_eq_true rfl) rfl ?_
  refine a_iload_n (kX6_type.at 0 rfl) 1 rfl ?_
  refine a_i2l (kX6_type.at 1 rfl) ?_
  refine a_lconst (kX6_type.at 2 rfl) 0 rfl rfl ?_
  refine a_ldc2 (kX6_type.at 3 rfl) cl_X6_98 (255) rfl ⟨by decide, by decide⟩ ?_
  refine AW.callS (as := [vL b, vL 0, vL 255]) (st := []) (kX6_type.at 4 rfl) ml_X6_70 ss_X6_in ⟨Nat.le_of_ble_eq_true rfl, Nat.le_of_ble_eq_true rfl⟩ ⟨Nat.le_refl _, Nat.le_refl _⟩ rfl rfl (Nat.le_of_ble_eq_true rfl) (c_in G M b 0 255) (kIE ?_)
  refine a_ifneB (tgt := 15) (kX6_type.at 5 rfl) (by decide) (fun h9 => ?_) (fun h9 => ?_)
  · refine a_aload_n (kX6_type.at 8 rfl) 0 rfl ?_
    refine a_getI (x := M 44 6) (kX6_type.at 9 rfl) fg_X6_100 ii_44_6 (rfl) ?_
    refine a_bipush (kX6_type.at 10 rfl) rfl rfl ?_
    refine a_icmpne (tgt := 27) (kX6_type.at 11 rfl) (by decide) (fun h21 => ?_) (fun h21 => ?_)
    · refine a_aload_n (kX6_type.at 14 rfl) 0 rfl ?_
      refine a_getR (kX6_type.at 15 rfl) fg_X6_22 ir_44_5 ?_
      refine a_aload_n (kX6_type.at 16 rfl) 0 rfl ?_
      refine a_getI (x := M 44 6) (kX6_type.at 17 rfl) fg_X6_100 ii_44_6 (rfl) ?_
      refine a_iload_n (kX6_type.at 18 rfl) 1 rfl ?_
      refine a_iast (kX6_type.at 19 rfl) (ia_49) (by omega) ?_
      refine a_aload_n (kX6_type.at 20 rfl) 0 rfl ?_
      refine a_dup (kX6_type.at 21 rfl) rfl ?_
      refine a_getI (x := M 44 6) (kX6_type.at 22 rfl) fg_X6_100 ii_44_6 (rd_ne (by decide)) ?_
      refine a_iconst (kX6_type.at 23 rfl) rfl ?_
      refine a_iadd (kX6_type.at 24 rfl) (inr (by omega)) ?_
      refine a_putI (j := 6) (kX6_type.at 25 rfl) fp_X6_100 (ii_44_6) rfl ?_
      refine a_aload_n (kX6_type.at 26 rfl) 0 rfl ?_
      refine a_getI (x := (M 44 6) + 1) (kX6_type.at 27 rfl) fg_X6_100 ii_44_6 (rd_eq) ?_
      exact a_iretE (kX6_type.at 28 rfl) (by simp [o_type, *])
    · refine a_bipush (kX6_type.at 12 rfl) rfl rfl ?_
      exact a_iretE (kX6_type.at 13 rfl) (by simp [o_type, *])
  · refine a_bipush (kX6_type.at 6 rfl) rfl rfl ?_
    exact a_iretE (kX6_type.at 7 rfl) (by simp [o_type, *])
theorem c_wipe (G : GT) (M : Mem) : AM G yX6_wipe cX6_wipe 2 (some .int) 0 M [vR 44] (qI (M 44 6) (upm M 44 6 0)) := by
  refine AM.mk (own := RX6) rfl sv_X6_wipe.1.2.2.2.2.2 (Nat.le_of_ble_eq_true rfl) rfl ?_
  refine a_aload_n (kX6_wipe.at 0 rfl) 0 rfl ?_
  refine a_getI (x := M 44 6) (kX6_wipe.at 1 rfl) fg_X6_100 ii_44_6 (rfl) ?_
  refine a_istore_n (ls' := [(0, vR 44), (1, vI (M 44 6))]) (kX6_wipe.at 2 rfl) (by decide) rfl ?_
  refine a_aload_n (kX6_wipe.at 3 rfl) 0 rfl ?_
  refine a_iconst (kX6_wipe.at 4 rfl) rfl ?_
  refine a_putI (j := 6) (kX6_wipe.at 5 rfl) fp_X6_100 (ii_44_6) rfl ?_
  refine a_iload_n (kX6_wipe.at 6 rfl) 1 rfl ?_
  exact a_iretE (kX6_wipe.at 7 rfl) (⟨rfl, rfl⟩)
noncomputable def o_undo (M : Mem) : Int × Mem := if M 44 6 = 0 then (-3, M) else (M 44 6 - 1, upm M 44 6 (M 44 6 - 1))
theorem c_undo (G : GT) (M : Mem) (ht : 0 ≤ M 44 6 ∧ M 44 6 ≤ 31) : AM G yX6_undo cX6_undo 1 (some .int) 0 M [vR 44] (qI (o_undo M).1 (o_undo M).2) := by
  refine AM.mk (own := RX6) rfl sv_X6_undo.1.2.2.2.2.2 (Nat.le_of_ble_eq_true rfl) rfl ?_
  refine a_aload_n (kX6_undo.at 0 rfl) 0 rfl ?_
  refine a_getI (x := M 44 6) (kX6_undo.at 1 rfl) fg_X6_100 ii_44_6 (rfl) ?_
  refine a_ifne (tgt := 10) (kX6_undo.at 2 rfl) (by decide) (fun h4 => ?_) (fun h4 => ?_)
  · refine a_aload_n (kX6_undo.at 5 rfl) 0 rfl ?_
    refine a_dup (kX6_undo.at 6 rfl) rfl ?_
    refine a_getI (x := M 44 6) (kX6_undo.at 7 rfl) fg_X6_100 ii_44_6 (rfl) ?_
    refine a_iconst (kX6_undo.at 8 rfl) rfl ?_
    refine a_isub (kX6_undo.at 9 rfl) (inr (by omega)) ?_
    refine a_putI (j := 6) (kX6_undo.at 10 rfl) fp_X6_100 (ii_44_6) rfl ?_
    refine a_aload_n (kX6_undo.at 11 rfl) 0 rfl ?_
    refine a_getI (x := (M 44 6) - 1) (kX6_undo.at 12 rfl) fg_X6_100 ii_44_6 (rd_eq) ?_
    exact a_iretE (kX6_undo.at 13 rfl) (by simp [o_undo, *])
  · refine a_bipush (kX6_undo.at 3 rfl) rfl rfl ?_
    exact a_iretE (kX6_undo.at 4 rfl) (by simp [o_undo, *])
/-- what the reference's calls need of the reference's own cells -/
noncomputable def MI (M : Mem) : Prop := (0 ≤ M 44 6 ∧ M 44 6 ≤ 31) ∧ (∀ i, 0 ≤ i → i < M 44 6 → 0 ≤ M 49 i ∧ M 49 i ≤ 255) ∧ (0 ≤ M 44 9 ∧ M 44 9 ≤ 8)
noncomputable def find (M : Mem) : Mem := lives (reads M).1
theorem reads_ev (M : Mem) (h : 0 ≤ M 44 6) : (reads M).1 44 9 = M 44 9 := Ft_reads M h 44 9 (by decide) (by omega)
theorem c_find (G : GT) (M : Mem) (hI : MI M) : AM G yX6_find cX6_find 1 none 5 M [vR 44] (qV (find M)) := by
  refine AM.mk (own := RX6) rfl sv_X6_find.1.2.2.2.2.2 (Nat.le_of_ble_eq_true rfl) rfl ?_
  obtain ⟨ht, hb, he⟩ := hI
  have hg := reads_PG M ht
  have h9 := reads_ev M ht.1
  refine a_aload_n (kX6_find.at 0 rfl) 0 rfl ?_
  refine AW.callV (as := []) (st := []) (kX6_find.at 1 rfl) ml_X6_117 sv_X6_reads (k := 44) (io_44) rfl rfl ⟨Nat.le_of_ble_eq_true rfl, Nat.le_of_ble_eq_true rfl⟩ ⟨Nat.le_refl _, Nat.le_refl _⟩ rfl rfl (Nat.le_of_ble_eq_true rfl) (c_reads G M (by omega) hb) (kIE ?_)
  refine a_pop (kX6_find.at 2 rfl) rfl ?_
  refine a_aload_n (kX6_find.at 3 rfl) 0 rfl ?_
  refine AW.callV (as := []) (st := []) (kX6_find.at 4 rfl) ml_X6_200 sv_X6_lives (k := 44) (io_44) rfl rfl ⟨Nat.le_of_ble_eq_true rfl, Nat.le_of_ble_eq_true rfl⟩ ⟨Nat.le_refl _, Nat.le_refl _⟩ rfl rfl (Nat.le_of_ble_eq_true rfl) (c_lives G ((reads M).1) hg (by omega)) (kVE ?_)
  exact a_vretE (kX6_find.at 5 rfl) (rfl)
theorem find_people (M : Mem) : (find M) 44 7 = (reads M).1 44 7 := (Fr_lives _).people
theorem find_pr (M : Mem) (hI : MI M) : 0 ≤ find M 44 7 ∧ find M 44 7 ≤ 8 := by rw [find_people]; exact (reads_PG M hI.1).1
