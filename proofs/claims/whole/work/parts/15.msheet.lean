/-! ===== the reference: sheets ===== -/
noncomputable def SI (M : Mem) : Prop := ∀ s, 0 ≤ s → s ≤ 3 → (-1 ≤ M 45 s ∧ M 45 s ≤ 2) ∧ (0 ≤ M 46 s ∧ M 46 s ≤ 60)
noncomputable def shF (s : Int) : Int → Mem → Mem := fun i N => upm N 47 (60 * s + i) 0
noncomputable def o_sheet (M : Mem) (s f n : Int) : Int × Mem := if (0 ≤ s ∧ s ≤ 3) ∧ (0 ≤ f ∧ f ≤ 2) ∧ n ≤ 60 then (if n < 0 then (-15, upm M 44 4 5) else (n, forR 0 n (shF s) (upm (upm M 45 s f) 46 s n))) else (-2, M)
set_option maxHeartbeats 4000000 in
set_option maxRecDepth 100000 in
theorem l_sheet (G : GT) (M : Mem) (s f n : Int) (X : XT) (hs : 0 ≤ s ∧ s ≤ 3) (hn : 0 ≤ n ∧ n ≤ 60) (hlohi : (0 : Int) ≤ n) (kk : AW G RX6 cX6_sheet 5 (some .int) X 80 [(0, vR 44), (1, vI s), (2, vI f), (3, vI n), (4, vI n)] [] (forR 0 n (shF s) M)) : AW G RX6 cX6_sheet 5 (some .int) X 55 [(0, vR 44), (1, vI s), (2, vI f), (3, vI n), (4, vI 0)] [] M := by
  have key : ∀ (nn : Nat) (i : Int) (N : Mem), (0 : Int) ≤ i → i ≤ n → N = forR 0 i (shF s) M → n - i < nn → AW G RX6 cX6_sheet 5 (some .int) X 55 [(0, vR 44), (1, vI s), (2, vI f), (3, vI n), (4, vI i)] [] N := by
    intro nn
    induction nn with
    | zero => intro i N hk0 hk1 e_N  hn; omega
    | succ nn ih =>
      intro i N hk0 hk1 e_N  hn
      refine a_iload (kX6_sheet.at 32 rfl) 4 rfl ?_
      refine a_iload_n (kX6_sheet.at 33 rfl) 3 rfl ?_
      refine a_icmpge (tgt := 80) (kX6_sheet.at 34 rfl) (by decide) (fun h58 => ?_) (fun h58 => ?_)
      · obtain rfl : i = n := by omega
        subst e_N
        exact kk 
      · refine a_aload_n (kX6_sheet.at 35 rfl) 0 rfl ?_
        refine a_getR (kX6_sheet.at 36 rfl) fg_X6_16 ir_44_2 ?_
        refine a_bipush (kX6_sheet.at 37 rfl) rfl rfl ?_
        refine a_iload_n (kX6_sheet.at 38 rfl) 1 rfl ?_
        refine a_imul (kX6_sheet.at 39 rfl) (inr (by omega)) ?_
        refine a_iload (kX6_sheet.at 40 rfl) 4 rfl ?_
        refine a_iadd (kX6_sheet.at 41 rfl) (inr (by omega)) ?_
        refine a_iconst (kX6_sheet.at 42 rfl) rfl ?_
        refine a_iast (kX6_sheet.at 43 rfl) (ia_47) (by omega) ?_
        refine a_iinc (ls' := [(0, vR 44), (1, vI s), (2, vI f), (3, vI n), (4, vI (i + 1))]) (kX6_sheet.at 44 rfl) 4 rfl (by decide) (inr (by omega)) rfl ?_
        refine a_goto (tgt := 55) (kX6_sheet.at 45 rfl) (by decide) ?_
        exact ih ((i + 1)) ((upm N 47 ((60 * s) + i) 0)) (by omega) (by omega) (by rw [forR_succ hk0, ← e_N] <;> (clear ih kk e_N; rfl)) (by omega)
  exact key ((n) - (0) + 1 : Int).toNat (0) M (Int.le_refl _) hlohi (forR_nil (Int.le_refl _)).symm  (by omega)
theorem c_sheet (G : GT) (M : Mem) (s f n : Int) : AM G yX6_sheet cX6_sheet 5 (some .int) 2 M [vR 44, vI s, vI f, vI n] (qI (o_sheet M s f n).1 (o_sheet M s f n).2) := by
  refine AM.mk (own := RX6) rfl sv_X6_sheet.1.2.2.2.2.2 (Nat.le_of_ble_eq_true rfl) rfl ?_
  refine a_iload_n (kX6_sheet.at 0 rfl) 1 rfl ?_
  refine AW.callS (as := [vI s]) (st := []) (kX6_sheet.at 1 rfl) ml_X6_79 ss_X6_isSheet ⟨Nat.le_of_ble_eq_true rfl, Nat.le_of_ble_eq_true rfl⟩ ⟨Nat.le_refl _, Nat.le_refl _⟩ rfl rfl (Nat.le_of_ble_eq_true rfl) (c_isSheet G M s) (kIE ?_)
  refine a_ifeqB (tgt := 25) (kX6_sheet.at 2 rfl) (by decide) (fun h4 => ?_) (fun h4 => ?_)
  · refine a_bipush (kX6_sheet.at 12 rfl) rfl rfl ?_
    exact a_iretE (kX6_sheet.at 13 rfl) (by first | (exfalso; omega) | (unfold o_sheet; (repeat' split) <;> first | (exfalso; omega) | exact ⟨rfl, rfl⟩))
  · refine a_iload_n (kX6_sheet.at 3 rfl) 2 rfl ?_
    refine a_i2l (kX6_sheet.at 4 rfl) ?_
    refine a_lconst (kX6_sheet.at 5 rfl) 0 rfl rfl ?_
    refine a_ldc2 (kX6_sheet.at 6 rfl) cl_X6_83 (2) rfl ⟨by decide, by decide⟩ ?_
    refine AW.callS (as := [vL f, vL 0, vL 2]) (st := []) (kX6_sheet.at 7 rfl) ml_X6_70 ss_X6_in ⟨Nat.le_of_ble_eq_true rfl, Nat.le_of_ble_eq_true rfl⟩ ⟨Nat.le_refl _, Nat.le_refl _⟩ rfl rfl (Nat.le_of_ble_eq_true rfl) (c_in G M f 0 2) (kIE ?_)
    refine a_ifeqB (tgt := 25) (kX6_sheet.at 8 rfl) (by decide) (fun h16 => ?_) (fun h16 => ?_)
    · refine a_bipush (kX6_sheet.at 12 rfl) rfl rfl ?_
      exact a_iretE (kX6_sheet.at 13 rfl) (by first | (exfalso; omega) | (unfold o_sheet; (repeat' split) <;> first | (exfalso; omega) | exact ⟨rfl, rfl⟩))
    · refine a_iload_n (kX6_sheet.at 9 rfl) 3 rfl ?_
      refine a_bipush (kX6_sheet.at 10 rfl) rfl rfl ?_
      refine a_icmple (tgt := 28) (kX6_sheet.at 11 rfl) (by decide) (fun h22 => ?_) (fun h22 => ?_)
      · refine a_iload_n (kX6_sheet.at 14 rfl) 3 rfl ?_
        refine a_ifge (tgt := 38) (kX6_sheet.at 15 rfl) (by decide) (fun h29 => ?_) (fun h29 => ?_)
        · refine a_aload_n (kX6_sheet.at 20 rfl) 0 rfl ?_
          refine a_getR (kX6_sheet.at 21 rfl) fg_X6_7 ir_44_0 ?_
          refine a_iload_n (kX6_sheet.at 22 rfl) 1 rfl ?_
          refine a_iload_n (kX6_sheet.at 23 rfl) 2 rfl ?_
          refine a_iast (kX6_sheet.at 24 rfl) (ia_45) (by omega) ?_
          refine a_aload_n (kX6_sheet.at 25 rfl) 0 rfl ?_
          refine a_getR (kX6_sheet.at 26 rfl) fg_X6_13 ir_44_1 ?_
          refine a_iload_n (kX6_sheet.at 27 rfl) 1 rfl ?_
          refine a_iload_n (kX6_sheet.at 28 rfl) 3 rfl ?_
          refine a_iast (kX6_sheet.at 29 rfl) (ia_46) (by omega) ?_
          refine a_iconst (kX6_sheet.at 30 rfl) rfl ?_
          refine a_istore (ls' := [(0, vR 44), (1, vI s), (2, vI f), (3, vI n), (4, vI 0)]) (kX6_sheet.at 31 rfl) (by decide) rfl ?_
          refine l_sheet G (upm (upm M 45 s f) 46 s n) s f n _ (by omega) (by omega) (by omega) ?_
          show AW _ _ _ _ _ _ 80 [(0, vR 44), (1, vI s), (2, vI f), (3, vI n), (4, vI n)] [] (forR 0 n (shF s) (upm (upm M 45 s f) 46 s n))
          refine a_iload_n (kX6_sheet.at 46 rfl) 3 rfl ?_
          exact a_iretE (kX6_sheet.at 47 rfl) (by first | (exfalso; omega) | (unfold o_sheet; (repeat' split) <;> first | (exfalso; omega) | exact ⟨rfl, rfl⟩))
        · refine a_aload_n (kX6_sheet.at 16 rfl) 0 rfl ?_
          refine a_iconst (kX6_sheet.at 17 rfl) rfl ?_
          refine AW.callV (as := [vI 5]) (st := []) (kX6_sheet.at 18 rfl) ml_X6_85 sv_X6_finds (k := 44) (io_44) rfl rfl ⟨Nat.le_of_ble_eq_true rfl, Nat.le_of_ble_eq_true rfl⟩ ⟨Nat.le_refl _, Nat.le_refl _⟩ rfl rfl (Nat.le_of_ble_eq_true rfl) (c_finds G M 5 (by omega)) (kIE ?_)
          exact a_iretE (kX6_sheet.at 19 rfl) (by first | (exfalso; omega) | (unfold o_sheet; (repeat' split) <;> first | (exfalso; omega) | exact ⟨rfl, rfl⟩))
      · refine a_bipush (kX6_sheet.at 12 rfl) rfl rfl ?_
        exact a_iretE (kX6_sheet.at 13 rfl) (by first | (exfalso; omega) | (unfold o_sheet; (repeat' split) <;> first | (exfalso; omega) | exact ⟨rfl, rfl⟩))
noncomputable def o_lose (M : Mem) (s : Int) : Int × Mem := if 0 ≤ s ∧ s ≤ 3 then (if M 45 s < 0 then (-11, upm M 44 4 1) else (M 46 s, upm M 45 s (-1))) else (-2, M)
theorem c_lose (G : GT) (M : Mem) (s : Int) : AM G yX6_lose cX6_lose 2 (some .int) 2 M [vR 44, vI s] (qI (o_lose M s).1 (o_lose M s).2) := by
  refine AM.mk (own := RX6) rfl sv_X6_lose.1.2.2.2.2.2 (Nat.le_of_ble_eq_true rfl) rfl ?_
  refine a_iload_n (kX6_lose.at 0 rfl) 1 rfl ?_
  refine AW.callS (as := [vI s]) (st := []) (kX6_lose.at 1 rfl) ml_X6_79 ss_X6_isSheet ⟨Nat.le_of_ble_eq_true rfl, Nat.le_of_ble_eq_true rfl⟩ ⟨Nat.le_refl _, Nat.le_refl _⟩ rfl rfl (Nat.le_of_ble_eq_true rfl) (c_isSheet G M s) (kIE ?_)
  refine a_ifneB (tgt := 10) (kX6_lose.at 2 rfl) (by decide) (fun h4 => ?_) (fun h4 => ?_)
  · refine a_aload_n (kX6_lose.at 5 rfl) 0 rfl ?_
    refine a_getR (kX6_lose.at 6 rfl) fg_X6_7 ir_44_0 ?_
    refine a_iload_n (kX6_lose.at 7 rfl) 1 rfl ?_
    refine a_iald (x := M 45 s) (kX6_lose.at 8 rfl) (ia_45) (by omega) (rfl) ?_
    refine a_ifge (tgt := 25) (kX6_lose.at 9 rfl) (by decide) (fun h16 => ?_) (fun h16 => ?_)
    · refine a_aload_n (kX6_lose.at 14 rfl) 0 rfl ?_
      refine a_getR (kX6_lose.at 15 rfl) fg_X6_7 ir_44_0 ?_
      refine a_iload_n (kX6_lose.at 16 rfl) 1 rfl ?_
      refine a_iconst (kX6_lose.at 17 rfl) rfl ?_
      refine a_iast (kX6_lose.at 18 rfl) (ia_45) (by omega) ?_
      refine a_aload_n (kX6_lose.at 19 rfl) 0 rfl ?_
      refine a_getR (kX6_lose.at 20 rfl) fg_X6_13 ir_44_1 ?_
      refine a_iload_n (kX6_lose.at 21 rfl) 1 rfl ?_
      refine a_iald (x := M 46 s) (kX6_lose.at 22 rfl) (ia_46) (by omega) (rd_ne (by decide)) ?_
      exact a_iretE (kX6_lose.at 23 rfl) (by first | (exfalso; omega) | (unfold o_lose; (repeat' split) <;> first | (exfalso; omega) | exact ⟨rfl, rfl⟩))
    · refine a_aload_n (kX6_lose.at 10 rfl) 0 rfl ?_
      refine a_iconst (kX6_lose.at 11 rfl) rfl ?_
      refine AW.callV (as := [vI 1]) (st := []) (kX6_lose.at 12 rfl) ml_X6_85 sv_X6_finds (k := 44) (io_44) rfl rfl ⟨Nat.le_of_ble_eq_true rfl, Nat.le_of_ble_eq_true rfl⟩ ⟨Nat.le_refl _, Nat.le_refl _⟩ rfl rfl (Nat.le_of_ble_eq_true rfl) (c_finds G M 1 (by omega)) (kIE ?_)
      exact a_iretE (kX6_lose.at 13 rfl) (by first | (exfalso; omega) | (unfold o_lose; (repeat' split) <;> first | (exfalso; omega) | exact ⟨rfl, rfl⟩))
  · refine a_bipush (kX6_lose.at 3 rfl) rfl rfl ?_
    exact a_iretE (kX6_lose.at 4 rfl) (by first | (exfalso; omega) | (unfold o_lose; (repeat' split) <;> first | (exfalso; omega) | exact ⟨rfl, rfl⟩))
noncomputable def lacks (M : Mem) (s f i : Int) : Int × Mem := if M 45 s < 0 then (-11, upm M 44 4 1) else if M 45 s = f then (if 0 ≤ i ∧ i ≤ M 46 s - 1 then (0, M) else (-12, upm M 44 4 2)) else (-13, upm M 44 4 3)
theorem c_lacks (G : GT) (M : Mem) (s f i : Int) (hI : SI M) (hs : 0 ≤ s ∧ s ≤ 3) : AM G yX6_lacks cX6_lacks 4 (some .int) 1 M [vR 44, vI s, vI f, vI i] (qI (lacks M s f i).1 (lacks M s f i).2) := by
  refine AM.mk (own := RX6) rfl sv_X6_lacks.1.2.2.2.2.2 (Nat.le_of_ble_eq_true rfl) rfl ?_
  have hI := hI s hs.1 hs.2
  refine a_aload_n (kX6_lacks.at 0 rfl) 0 rfl ?_
  refine a_getR (kX6_lacks.at 1 rfl) fg_X6_7 ir_44_0 ?_
  refine a_iload_n (kX6_lacks.at 2 rfl) 1 rfl ?_
  refine a_iald (x := M 45 s) (kX6_lacks.at 3 rfl) (ia_45) (by omega) (rfl) ?_
  refine a_ifge (tgt := 15) (kX6_lacks.at 4 rfl) (by decide) (fun h6 => ?_) (fun h6 => ?_)
  · refine a_aload_n (kX6_lacks.at 9 rfl) 0 rfl ?_
    refine a_getR (kX6_lacks.at 10 rfl) fg_X6_7 ir_44_0 ?_
    refine a_iload_n (kX6_lacks.at 11 rfl) 1 rfl ?_
    refine a_iald (x := M 45 s) (kX6_lacks.at 12 rfl) (ia_45) (by omega) (rfl) ?_
    refine a_iload_n (kX6_lacks.at 13 rfl) 2 rfl ?_
    refine a_icmpeq (tgt := 31) (kX6_lacks.at 14 rfl) (by decide) (fun h22 => ?_) (fun h22 => ?_)
    · refine a_iload_n (kX6_lacks.at 19 rfl) 3 rfl ?_
      refine a_i2l (kX6_lacks.at 20 rfl) ?_
      refine a_lconst (kX6_lacks.at 21 rfl) 0 rfl rfl ?_
      refine a_aload_n (kX6_lacks.at 22 rfl) 0 rfl ?_
      refine a_getR (kX6_lacks.at 23 rfl) fg_X6_13 ir_44_1 ?_
      refine a_iload_n (kX6_lacks.at 24 rfl) 1 rfl ?_
      refine a_iald (x := M 46 s) (kX6_lacks.at 25 rfl) (ia_46) (by omega) (rfl) ?_
      refine a_iconst (kX6_lacks.at 26 rfl) rfl ?_
      refine a_isub (kX6_lacks.at 27 rfl) (inr (by omega)) ?_
      refine a_i2l (kX6_lacks.at 28 rfl) ?_
      refine AW.callS (as := [vL i, vL 0, vL ((M 46 s) - 1)]) (st := []) (kX6_lacks.at 29 rfl) ml_X6_70 ss_X6_in ⟨Nat.le_of_ble_eq_true rfl, Nat.le_of_ble_eq_true rfl⟩ ⟨Nat.le_refl _, Nat.le_refl _⟩ rfl rfl (Nat.le_of_ble_eq_true rfl) (c_in G M i 0 ((M 46 s) - 1)) (kIE ?_)
      refine a_ifeqB (tgt := 53) (kX6_lacks.at 30 rfl) (by decide) (fun h46 => ?_) (fun h46 => ?_)
      · refine a_aload_n (kX6_lacks.at 33 rfl) 0 rfl ?_
        refine a_iconst (kX6_lacks.at 34 rfl) rfl ?_
        refine AW.callV (as := [vI 2]) (st := []) (kX6_lacks.at 35 rfl) ml_X6_85 sv_X6_finds (k := 44) (io_44) rfl rfl ⟨Nat.le_of_ble_eq_true rfl, Nat.le_of_ble_eq_true rfl⟩ ⟨Nat.le_refl _, Nat.le_refl _⟩ rfl rfl (Nat.le_of_ble_eq_true rfl) (c_finds G M 2 (by omega)) (kIE ?_)
        exact a_iretE (kX6_lacks.at 36 rfl) (by first | (exfalso; omega) | (unfold lacks; (repeat' split) <;> first | (exfalso; omega) | exact ⟨rfl, rfl⟩))
      · refine a_iconst (kX6_lacks.at 31 rfl) rfl ?_
        refine a_goto (tgt := 58) (kX6_lacks.at 32 rfl) (by decide) ?_
        exact a_iretE (kX6_lacks.at 36 rfl) (by first | (exfalso; omega) | (unfold lacks; (repeat' split) <;> first | (exfalso; omega) | exact ⟨rfl, rfl⟩))
    · refine a_aload_n (kX6_lacks.at 15 rfl) 0 rfl ?_
      refine a_iconst (kX6_lacks.at 16 rfl) rfl ?_
      refine AW.callV (as := [vI 3]) (st := []) (kX6_lacks.at 17 rfl) ml_X6_85 sv_X6_finds (k := 44) (io_44) rfl rfl ⟨Nat.le_of_ble_eq_true rfl, Nat.le_of_ble_eq_true rfl⟩ ⟨Nat.le_refl _, Nat.le_refl _⟩ rfl rfl (Nat.le_of_ble_eq_true rfl) (c_finds G M 3 (by omega)) (kIE ?_)
      exact a_iretE (kX6_lacks.at 18 rfl) (by first | (exfalso; omega) | (unfold lacks; (repeat' split) <;> first | (exfalso; omega) | exact ⟨rfl, rfl⟩))
  · refine a_aload_n (kX6_lacks.at 5 rfl) 0 rfl ?_
    refine a_iconst (kX6_lacks.at 6 rfl) rfl ?_
    refine AW.callV (as := [vI 1]) (st := []) (kX6_lacks.at 7 rfl) ml_X6_85 sv_X6_finds (k := 44) (io_44) rfl rfl ⟨Nat.le_of_ble_eq_true rfl, Nat.le_of_ble_eq_true rfl⟩ ⟨Nat.le_refl _, Nat.le_refl _⟩ rfl rfl (Nat.le_of_ble_eq_true rfl) (c_finds G M 1 (by omega)) (kIE ?_)
    exact a_iretE (kX6_lacks.at 8 rfl) (by first | (exfalso; omega) | (unfold lacks; (repeat' split) <;> first | (exfalso; omega) | exact ⟨rfl, rfl⟩))
theorem lacks_0 {M : Mem} {s f i : Int} (h : (lacks M s f i).1 = 0) : lacks M s f i = (0, M) ∧ 0 ≤ M 45 s ∧ M 45 s = f ∧ 0 ≤ i ∧ i ≤ M 46 s - 1 := by
  unfold lacks at h ⊢
  split at h
  · simp at h
  · rename_i h1
    split at h
    · rename_i h2
      split at h
      · rename_i h3
        rw [if_neg h1, if_pos h2, if_pos h3]
        exact ⟨rfl, by omega, h2, h3⟩
      · simp at h
    · simp at h
noncomputable def o_lay (M : Mem) (s f i v : Int) : Int × Mem := if (0 ≤ s ∧ s ≤ 3) ∧ (0 ≤ f ∧ f ≤ 2) then (if (lacks M s f i).1 = 0 then (1, upm M 47 (60 * s + i) (cut f v)) else lacks M s f i) else (-2, M)
theorem c_lay (G : GT) (M : Mem) (s f i v : Int) (hI : SI M) : AM G yX6_lay cX6_lay 6 (some .int) 2 M [vR 44, vI s, vI f, vI i, vI v] (qI (o_lay M s f i v).1 (o_lay M s f i v).2) := by
  refine AM.mk (own := RX6) rfl sv_X6_lay.1.2.2.2.2.2 (Nat.le_of_ble_eq_true rfl) rfl ?_
  refine a_iload_n (kX6_lay.at 0 rfl) 1 rfl ?_
  refine AW.callS (as := [vI s]) (st := []) (kX6_lay.at 1 rfl) ml_X6_79 ss_X6_isSheet ⟨Nat.le_of_ble_eq_true rfl, Nat.le_of_ble_eq_true rfl⟩ ⟨Nat.le_refl _, Nat.le_refl _⟩ rfl rfl (Nat.le_of_ble_eq_true rfl) (c_isSheet G M s) (kIE ?_)
  refine a_ifeqB (tgt := 19) (kX6_lay.at 2 rfl) (by decide) (fun h4 => ?_) (fun h4 => ?_)
  · refine a_bipush (kX6_lay.at 9 rfl) rfl rfl ?_
    exact a_iretE (kX6_lay.at 10 rfl) (by first | (exfalso; omega) | (simp [o_lay, *] <;> omega))
  · refine a_iload_n (kX6_lay.at 3 rfl) 2 rfl ?_
    refine a_i2l (kX6_lay.at 4 rfl) ?_
    refine a_lconst (kX6_lay.at 5 rfl) 0 rfl rfl ?_
    refine a_ldc2 (kX6_lay.at 6 rfl) cl_X6_83 (2) rfl ⟨by decide, by decide⟩ ?_
    refine AW.callS (as := [vL f, vL 0, vL 2]) (st := []) (kX6_lay.at 7 rfl) ml_X6_70 ss_X6_in ⟨Nat.le_of_ble_eq_true rfl, Nat.le_of_ble_eq_true rfl⟩ ⟨Nat.le_refl _, Nat.le_refl _⟩ rfl rfl (Nat.le_of_ble_eq_true rfl) (c_in G M f 0 2) (kIE ?_)
    refine a_ifneB (tgt := 22) (kX6_lay.at 8 rfl) (by decide) (fun h16 => ?_) (fun h16 => ?_)
    · refine a_aload_n (kX6_lay.at 11 rfl) 0 rfl ?_
      refine a_iload_n (kX6_lay.at 12 rfl) 1 rfl ?_
      refine a_iload_n (kX6_lay.at 13 rfl) 2 rfl ?_
      refine a_iload_n (kX6_lay.at 14 rfl) 3 rfl ?_
      refine AW.callV (as := [vI s, vI f, vI i]) (st := []) (kX6_lay.at 15 rfl) ml_X6_89 sv_X6_lacks (k := 44) (io_44) rfl rfl ⟨Nat.le_of_ble_eq_true rfl, Nat.le_of_ble_eq_true rfl⟩ ⟨Nat.le_refl _, Nat.le_refl _⟩ rfl rfl (Nat.le_of_ble_eq_true rfl) (c_lacks G M s f i hI (by omega)) (kIE ?_)
      refine a_istore (ls' := [(0, vR 44), (1, vI s), (2, vI f), (3, vI i), (4, vI v), (5, vI ((lacks M s f i).1))]) (kX6_lay.at 16 rfl) (by decide) rfl ?_
      refine a_iload (kX6_lay.at 17 rfl) 5 rfl ?_
      refine a_ifeq (tgt := 39) (kX6_lay.at 18 rfl) (by decide) (fun h33 => ?_) (fun h33 => ?_)
      · have hl := lacks_0 h33
        have hI2 := hI s (by omega) (by omega)
        refine AW.mem (M' := M) (by rw [hl.1]) ?_
        refine a_aload_n (kX6_lay.at 21 rfl) 0 rfl ?_
        refine a_getR (kX6_lay.at 22 rfl) fg_X6_16 ir_44_2 ?_
        refine a_bipush (kX6_lay.at 23 rfl) rfl rfl ?_
        refine a_iload_n (kX6_lay.at 24 rfl) 1 rfl ?_
        refine a_imul (kX6_lay.at 25 rfl) (inr (by omega)) ?_
        refine a_iload_n (kX6_lay.at 26 rfl) 3 rfl ?_
        refine a_iadd (kX6_lay.at 27 rfl) (inr (by omega)) ?_
        refine a_iload_n (kX6_lay.at 28 rfl) 2 rfl ?_
        refine a_iload (kX6_lay.at 29 rfl) 4 rfl ?_
        refine AW.callS (as := [vI f, vI v]) (st := [vI ((60 * s) + i), vR 47]) (kX6_lay.at 30 rfl) ml_X6_93 ss_X6_cut ⟨Nat.le_of_ble_eq_true rfl, Nat.le_of_ble_eq_true rfl⟩ ⟨Nat.le_refl _, Nat.le_refl _⟩ rfl rfl (Nat.le_of_ble_eq_true rfl) (c_cut G M f v) (kIE ?_)
        refine a_iast (kX6_lay.at 31 rfl) (ia_47) (by omega) ?_
        refine a_iconst (kX6_lay.at 32 rfl) rfl ?_
        exact a_iretE (kX6_lay.at 33 rfl) (by first | (exfalso; omega) | (simp [o_lay, *] <;> omega))
      · refine a_iload (kX6_lay.at 19 rfl) 5 rfl ?_
        exact a_iretE (kX6_lay.at 20 rfl) (by first | (exfalso; omega) | (simp [o_lay, *] <;> omega))
    · refine a_bipush (kX6_lay.at 9 rfl) rfl rfl ?_
      exact a_iretE (kX6_lay.at 10 rfl) (by first | (exfalso; omega) | (simp [o_lay, *] <;> omega))
noncomputable def o_get (M : Mem) (s f i : Int) : Int × Mem := if (0 ≤ s ∧ s ≤ 3) ∧ (0 ≤ f ∧ f ≤ 2) then (if (lacks M s f i).1 = 0 then (M 47 (60 * s + i), M) else (-2147483648, (lacks M s f i).2)) else (-2147483648, M)
theorem c_get (G : GT) (M : Mem) (s f i : Int) (hI : SI M) : AM G yX6_get cX6_get 4 (some .int) 2 M [vR 44, vI s, vI f, vI i] (qI (o_get M s f i).1 (o_get M s f i).2) := by
  refine AM.mk (own := RX6) rfl sv_X6_get.1.2.2.2.2.2 (Nat.le_of_ble_eq_true rfl) rfl ?_
  refine a_iload_n (kX6_get.at 0 rfl) 1 rfl ?_
  refine AW.callS (as := [vI s]) (st := []) (kX6_get.at 1 rfl) ml_X6_79 ss_X6_isSheet ⟨Nat.le_of_ble_eq_true rfl, Nat.le_of_ble_eq_true rfl⟩ ⟨Nat.le_refl _, Nat.le_refl _⟩ rfl rfl (Nat.le_of_ble_eq_true rfl) (c_isSheet G M s) (kIE ?_)
  refine a_ifeqB (tgt := 29) (kX6_get.at 2 rfl) (by decide) (fun h4 => ?_) (fun h4 => ?_)
  · refine a_ldc (kX6_get.at 15 rfl) cn_X6_97 (-2147483648) rfl rfl ?_
    exact a_iretE (kX6_get.at 16 rfl) (by first | (exfalso; omega) | (simp [o_get, *] <;> omega))
  · refine a_iload_n (kX6_get.at 3 rfl) 2 rfl ?_
    refine a_i2l (kX6_get.at 4 rfl) ?_
    refine a_lconst (kX6_get.at 5 rfl) 0 rfl rfl ?_
    refine a_ldc2 (kX6_get.at 6 rfl) cl_X6_83 (2) rfl ⟨by decide, by decide⟩ ?_
    refine AW.callS (as := [vL f, vL 0, vL 2]) (st := []) (kX6_get.at 7 rfl) ml_X6_70 ss_X6_in ⟨Nat.le_of_ble_eq_true rfl, Nat.le_of_ble_eq_true rfl⟩ ⟨Nat.le_refl _, Nat.le_refl _⟩ rfl rfl (Nat.le_of_ble_eq_true rfl) (c_in G M f 0 2) (kIE ?_)
    refine a_ifeqB (tgt := 29) (kX6_get.at 8 rfl) (by decide) (fun h16 => ?_) (fun h16 => ?_)
    · refine a_ldc (kX6_get.at 15 rfl) cn_X6_97 (-2147483648) rfl rfl ?_
      exact a_iretE (kX6_get.at 16 rfl) (by first | (exfalso; omega) | (simp [o_get, *] <;> omega))
    · refine a_aload_n (kX6_get.at 9 rfl) 0 rfl ?_
      refine a_iload_n (kX6_get.at 10 rfl) 1 rfl ?_
      refine a_iload_n (kX6_get.at 11 rfl) 2 rfl ?_
      refine a_iload_n (kX6_get.at 12 rfl) 3 rfl ?_
      refine AW.callV (as := [vI s, vI f, vI i]) (st := []) (kX6_get.at 13 rfl) ml_X6_89 sv_X6_lacks (k := 44) (io_44) rfl rfl ⟨Nat.le_of_ble_eq_true rfl, Nat.le_of_ble_eq_true rfl⟩ ⟨Nat.le_refl _, Nat.le_refl _⟩ rfl rfl (Nat.le_of_ble_eq_true rfl) (c_lacks G M s f i hI (by omega)) (kIE ?_)
      refine a_ifeq (tgt := 32) (kX6_get.at 14 rfl) (by decide) (fun h26 => ?_) (fun h26 => ?_)
      · have hl := lacks_0 h26
        have hI2 := hI s (by omega) (by omega)
        refine AW.mem (M' := M) (by rw [hl.1]) ?_
        refine a_aload_n (kX6_get.at 17 rfl) 0 rfl ?_
        refine a_getR (kX6_get.at 18 rfl) fg_X6_16 ir_44_2 ?_
        refine a_bipush (kX6_get.at 19 rfl) rfl rfl ?_
        refine a_iload_n (kX6_get.at 20 rfl) 1 rfl ?_
        refine a_imul (kX6_get.at 21 rfl) (inr (by omega)) ?_
        refine a_iload_n (kX6_get.at 22 rfl) 3 rfl ?_
        refine a_iadd (kX6_get.at 23 rfl) (inr (by omega)) ?_
        refine a_iald (x := M 47 ((60 * s) + i)) (kX6_get.at 24 rfl) (ia_47) (by omega) (rfl) ?_
        exact a_iretE (kX6_get.at 25 rfl) (by first | (exfalso; omega) | (simp [o_get, *] <;> omega))
      · refine a_ldc (kX6_get.at 15 rfl) cn_X6_97 (-2147483648) rfl rfl ?_
        exact a_iretE (kX6_get.at 16 rfl) (by first | (exfalso; omega) | (simp [o_get, *] <;> omega))
noncomputable def cp1 (s i : Int) : Int → Mem → Mem := fun a N => upm N 48 a (N 47 (60 * s + i + a))
noncomputable def cp2 (t j : Int) : Int → Mem → Mem := fun a N => upm N 47 (60 * t + j + a) (N 48 a)
noncomputable def o_copy (M : Mem) (s i t j n : Int) : Int × Mem := if (0 ≤ s ∧ s ≤ 3) ∧ (0 ≤ t ∧ t ≤ 3) then (if M 45 s < 0 ∨ M 45 t < 0 then (-11, upm M 44 4 1) else if M 45 s = M 45 t then (if 0 ≤ i ∧ 0 ≤ j ∧ 0 ≤ n ∧ i + n ≤ M 46 s ∧ j + n ≤ M 46 t then (1, forR 0 n (cp2 t j) (forR 0 n (cp1 s i) M)) else (-12, upm M 44 4 2)) else (-14, upm M 44 4 4)) else (-2, M)
set_option maxHeartbeats 4000000 in
set_option maxRecDepth 100000 in
theorem l_copy1 (G : GT) (M : Mem) (s i t j n : Int) (X : XT) (hs : 0 ≤ s ∧ s ≤ 3) (hn : 0 ≤ n ∧ 0 ≤ i ∧ i + n ≤ 60) (hlohi : (0 : Int) ≤ n) (kk : AW G RX6 cX6_copy 7 (some .int) X 154 [(0, vR 44), (1, vI s), (2, vI i), (3, vI t), (4, vI j), (5, vI n), (6, vI n)] [] (forR 0 n (cp1 s i) M)) : AW G RX6 cX6_copy 7 (some .int) X 120 [(0, vR 44), (1, vI s), (2, vI i), (3, vI t), (4, vI j), (5, vI n), (6, vI 0)] [] M := by
  have key : ∀ (nn : Nat) (a : Int) (N : Mem), (0 : Int) ≤ a → a ≤ n → N = forR 0 a (cp1 s i) M → n - a < nn → AW G RX6 cX6_copy 7 (some .int) X 120 [(0, vR 44), (1, vI s), (2, vI i), (3, vI t), (4, vI j), (5, vI n), (6, vI a)] [] N := by
    intro nn
    induction nn with
    | zero => intro a N hk0 hk1 e_N  hn; omega
    | succ nn ih =>
      intro a N hk0 hk1 e_N  hn
      refine a_iload (kX6_copy.at 71 rfl) 6 rfl ?_
      refine a_iload (kX6_copy.at 72 rfl) 5 rfl ?_
      refine a_icmpge (tgt := 154) (kX6_copy.at 73 rfl) (by decide) (fun h124 => ?_) (fun h124 => ?_)
      · obtain rfl : a = n := by omega
        subst e_N
        exact kk 
      · refine a_aload_n (kX6_copy.at 74 rfl) 0 rfl ?_
        refine a_getR (kX6_copy.at 75 rfl) fg_X6_19 ir_44_3 ?_
        refine a_iload (kX6_copy.at 76 rfl) 6 rfl ?_
        refine a_aload_n (kX6_copy.at 77 rfl) 0 rfl ?_
        refine a_getR (kX6_copy.at 78 rfl) fg_X6_16 ir_44_2 ?_
        refine a_bipush (kX6_copy.at 79 rfl) rfl rfl ?_
        refine a_iload_n (kX6_copy.at 80 rfl) 1 rfl ?_
        refine a_imul (kX6_copy.at 81 rfl) (inr (by omega)) ?_
        refine a_iload_n (kX6_copy.at 82 rfl) 2 rfl ?_
        refine a_iadd (kX6_copy.at 83 rfl) (inr (by omega)) ?_
        refine a_iload (kX6_copy.at 84 rfl) 6 rfl ?_
        refine a_iadd (kX6_copy.at 85 rfl) (inr (by omega)) ?_
        refine a_iald (x := N 47 (((60 * s) + i) + a)) (kX6_copy.at 86 rfl) (ia_47) (by omega) (rfl) ?_
        refine a_iast (kX6_copy.at 87 rfl) (ia_48) (by omega) ?_
        refine a_iinc (ls' := [(0, vR 44), (1, vI s), (2, vI i), (3, vI t), (4, vI j), (5, vI n), (6, vI (a + 1))]) (kX6_copy.at 88 rfl) 6 rfl (by decide) (inr (by omega)) rfl ?_
        refine a_goto (tgt := 120) (kX6_copy.at 89 rfl) (by decide) ?_
        exact ih ((a + 1)) ((upm N 48 a (N 47 (((60 * s) + i) + a)))) (by omega) (by omega) (by rw [forR_succ hk0, ← e_N] <;> (clear ih kk e_N; rfl)) (by omega)
  exact key ((n) - (0) + 1 : Int).toNat (0) M (Int.le_refl _) hlohi (forR_nil (Int.le_refl _)).symm  (by omega)
set_option maxHeartbeats 4000000 in
set_option maxRecDepth 100000 in
theorem l_copy2 (G : GT) (M : Mem) (s i t j n : Int) (X : XT) (hs : 0 ≤ t ∧ t ≤ 3) (hn : 0 ≤ n ∧ 0 ≤ j ∧ j + n ≤ 60) (hlohi : (0 : Int) ≤ n) (kk : AW G RX6 cX6_copy 7 (some .int) X 192 [(0, vR 44), (1, vI s), (2, vI i), (3, vI t), (4, vI j), (5, vI n), (6, vI n)] [] (forR 0 n (cp2 t j) M)) : AW G RX6 cX6_copy 7 (some .int) X 157 [(0, vR 44), (1, vI s), (2, vI i), (3, vI t), (4, vI j), (5, vI n), (6, vI 0)] [] M := by
  have key : ∀ (nn : Nat) (a : Int) (N : Mem), (0 : Int) ≤ a → a ≤ n → N = forR 0 a (cp2 t j) M → n - a < nn → AW G RX6 cX6_copy 7 (some .int) X 157 [(0, vR 44), (1, vI s), (2, vI i), (3, vI t), (4, vI j), (5, vI n), (6, vI a)] [] N := by
    intro nn
    induction nn with
    | zero => intro a N hk0 hk1 e_N  hn; omega
    | succ nn ih =>
      intro a N hk0 hk1 e_N  hn
      refine a_iload (kX6_copy.at 92 rfl) 6 rfl ?_
      refine a_iload (kX6_copy.at 93 rfl) 5 rfl ?_
      refine a_icmpge (tgt := 192) (kX6_copy.at 94 rfl) (by decide) (fun h161 => ?_) (fun h161 => ?_)
      · obtain rfl : a = n := by omega
        subst e_N
        exact kk 
      · refine a_aload_n (kX6_copy.at 95 rfl) 0 rfl ?_
        refine a_getR (kX6_copy.at 96 rfl) fg_X6_16 ir_44_2 ?_
        refine a_bipush (kX6_copy.at 97 rfl) rfl rfl ?_
        refine a_iload_n (kX6_copy.at 98 rfl) 3 rfl ?_
        refine a_imul (kX6_copy.at 99 rfl) (inr (by omega)) ?_
        refine a_iload (kX6_copy.at 100 rfl) 4 rfl ?_
        refine a_iadd (kX6_copy.at 101 rfl) (inr (by omega)) ?_
        refine a_iload (kX6_copy.at 102 rfl) 6 rfl ?_
        refine a_iadd (kX6_copy.at 103 rfl) (inr (by omega)) ?_
        refine a_aload_n (kX6_copy.at 104 rfl) 0 rfl ?_
        refine a_getR (kX6_copy.at 105 rfl) fg_X6_19 ir_44_3 ?_
        refine a_iload (kX6_copy.at 106 rfl) 6 rfl ?_
        refine a_iald (x := N 48 a) (kX6_copy.at 107 rfl) (ia_48) (by omega) (rfl) ?_
        refine a_iast (kX6_copy.at 108 rfl) (ia_47) (by omega) ?_
        refine a_iinc (ls' := [(0, vR 44), (1, vI s), (2, vI i), (3, vI t), (4, vI j), (5, vI n), (6, vI (a + 1))]) (kX6_copy.at 109 rfl) 6 rfl (by decide) (inr (by omega)) rfl ?_
        refine a_goto (tgt := 157) (kX6_copy.at 110 rfl) (by decide) ?_
        exact ih ((a + 1)) ((upm N 47 (((60 * t) + j) + a) (N 48 a))) (by omega) (by omega) (by rw [forR_succ hk0, ← e_N] <;> (clear ih kk e_N; rfl)) (by omega)
  exact key ((n) - (0) + 1 : Int).toNat (0) M (Int.le_refl _) hlohi (forR_nil (Int.le_refl _)).symm  (by omega)
theorem wL_small {x : Int} (h : -9000000000000000000 ≤ x ∧ x ≤ 9000000000000000000) : wL x = x := wL_id ⟨by omega, by omega⟩
theorem c_copy (G : GT) (M : Mem) (s i t j n : Int) (hI : SI M) : AM G yX6_copy cX6_copy 7 (some .int) 2 M [vR 44, vI s, vI i, vI t, vI j, vI n] (qI (o_copy M s i t j n).1 (o_copy M s i t j n).2) := by
  refine AM.mk (own := RX6) rfl sv_X6_copy.1.2.2.2.2.2 (Nat.le_of_ble_eq_true rfl) rfl ?_
  refine AW.facts fun _ hok _ => ?_
  have hi : inI i := hok (2, vI i) (List.mem_of_getElem? (i := 2) rfl)
  have hj : inI j := hok (4, vI j) (List.mem_of_getElem? (i := 4) rfl)
  have hn : inI n := hok (5, vI n) (List.mem_of_getElem? (i := 5) rfl)
  unfold inI at hi hj hn
  have w1 : wL (i + n) = i + n := wL_small (by omega)
  have w2 : wL (j + n) = j + n := wL_small (by omega)
  refine a_iload_n (kX6_copy.at 0 rfl) 1 rfl ?_
  refine AW.callS (as := [vI s]) (st := []) (kX6_copy.at 1 rfl) ml_X6_79 ss_X6_isSheet ⟨Nat.le_of_ble_eq_true rfl, Nat.le_of_ble_eq_true rfl⟩ ⟨Nat.le_refl _, Nat.le_refl _⟩ rfl rfl (Nat.le_of_ble_eq_true rfl) (c_isSheet G M s) (kIE ?_)
  refine a_ifeqB (tgt := 14) (kX6_copy.at 2 rfl) (by decide) (fun h4 => ?_) (fun h4 => ?_)
  · refine a_bipush (kX6_copy.at 6 rfl) rfl rfl ?_
    exact a_iretE (kX6_copy.at 7 rfl) (by first | (exfalso; omega) | (unfold o_copy; (repeat' split) <;> first | (exfalso; omega) | exact ⟨rfl, rfl⟩))
  · refine a_iload_n (kX6_copy.at 3 rfl) 3 rfl ?_
    refine AW.callS (as := [vI t]) (st := []) (kX6_copy.at 4 rfl) ml_X6_79 ss_X6_isSheet ⟨Nat.le_of_ble_eq_true rfl, Nat.le_of_ble_eq_true rfl⟩ ⟨Nat.le_refl _, Nat.le_refl _⟩ rfl rfl (Nat.le_of_ble_eq_true rfl) (c_isSheet G M t) (kIE ?_)
    refine a_ifneB (tgt := 17) (kX6_copy.at 5 rfl) (by decide) (fun h11 => ?_) (fun h11 => ?_)
    · refine a_aload_n (kX6_copy.at 8 rfl) 0 rfl ?_
      refine a_getR (kX6_copy.at 9 rfl) fg_X6_7 ir_44_0 ?_
      refine a_iload_n (kX6_copy.at 10 rfl) 1 rfl ?_
      refine a_iald (x := M 45 s) (kX6_copy.at 11 rfl) (ia_45) (by omega) (rfl) ?_
      refine a_iflt (tgt := 35) (kX6_copy.at 12 rfl) (by decide) (fun h23 => ?_) (fun h23 => ?_)
      · refine a_aload_n (kX6_copy.at 18 rfl) 0 rfl ?_
        refine a_iconst (kX6_copy.at 19 rfl) rfl ?_
        refine AW.callV (as := [vI 1]) (st := []) (kX6_copy.at 20 rfl) ml_X6_85 sv_X6_finds (k := 44) (io_44) rfl rfl ⟨Nat.le_of_ble_eq_true rfl, Nat.le_of_ble_eq_true rfl⟩ ⟨Nat.le_refl _, Nat.le_refl _⟩ rfl rfl (Nat.le_of_ble_eq_true rfl) (c_finds G M 1 (by omega)) (kIE ?_)
        exact a_iretE (kX6_copy.at 21 rfl) (by first | (exfalso; omega) | (unfold o_copy; (repeat' split) <;> first | (exfalso; omega) | exact ⟨rfl, rfl⟩))
      · refine a_aload_n (kX6_copy.at 13 rfl) 0 rfl ?_
        refine a_getR (kX6_copy.at 14 rfl) fg_X6_7 ir_44_0 ?_
        refine a_iload_n (kX6_copy.at 15 rfl) 3 rfl ?_
        refine a_iald (x := M 45 t) (kX6_copy.at 16 rfl) (ia_45) (by omega) (rfl) ?_
        refine a_ifge (tgt := 41) (kX6_copy.at 17 rfl) (by decide) (fun h32 => ?_) (fun h32 => ?_)
        · refine a_aload_n (kX6_copy.at 22 rfl) 0 rfl ?_
          refine a_getR (kX6_copy.at 23 rfl) fg_X6_7 ir_44_0 ?_
          refine a_iload_n (kX6_copy.at 24 rfl) 1 rfl ?_
          refine a_iald (x := M 45 s) (kX6_copy.at 25 rfl) (ia_45) (by omega) (rfl) ?_
          refine a_aload_n (kX6_copy.at 26 rfl) 0 rfl ?_
          refine a_getR (kX6_copy.at 27 rfl) fg_X6_7 ir_44_0 ?_
          refine a_iload_n (kX6_copy.at 28 rfl) 3 rfl ?_
          refine a_iald (x := M 45 t) (kX6_copy.at 29 rfl) (ia_45) (by omega) (rfl) ?_
          refine a_icmpeq (tgt := 62) (kX6_copy.at 30 rfl) (by decide) (fun h53 => ?_) (fun h53 => ?_)
          · have hI1 := hI s (by omega) (by omega)
            have hI2 := hI t (by omega) (by omega)
            refine a_iload_n (kX6_copy.at 35 rfl) 2 rfl ?_
            refine a_iflt (tgt := 111) (kX6_copy.at 36 rfl) (by decide) (fun h63 => ?_) (fun h63 => ?_)
            · refine a_aload_n (kX6_copy.at 65 rfl) 0 rfl ?_
              refine a_iconst (kX6_copy.at 66 rfl) rfl ?_
              refine AW.callV (as := [vI 2]) (st := []) (kX6_copy.at 67 rfl) ml_X6_85 sv_X6_finds (k := 44) (io_44) rfl rfl ⟨Nat.le_of_ble_eq_true rfl, Nat.le_of_ble_eq_true rfl⟩ ⟨Nat.le_refl _, Nat.le_refl _⟩ rfl rfl (Nat.le_of_ble_eq_true rfl) (c_finds G M 2 (by omega)) (kIE ?_)
              exact a_iretE (kX6_copy.at 68 rfl) (by first | (exfalso; omega) | (unfold o_copy; (repeat' split) <;> first | (exfalso; omega) | exact ⟨rfl, rfl⟩))
            · refine a_iload (kX6_copy.at 37 rfl) 4 rfl ?_
              refine a_iflt (tgt := 111) (kX6_copy.at 38 rfl) (by decide) (fun h68 => ?_) (fun h68 => ?_)
              · refine a_aload_n (kX6_copy.at 65 rfl) 0 rfl ?_
                refine a_iconst (kX6_copy.at 66 rfl) rfl ?_
                refine AW.callV (as := [vI 2]) (st := []) (kX6_copy.at 67 rfl) ml_X6_85 sv_X6_finds (k := 44) (io_44) rfl rfl ⟨Nat.le_of_ble_eq_true rfl, Nat.le_of_ble_eq_true rfl⟩ ⟨Nat.le_refl _, Nat.le_refl _⟩ rfl rfl (Nat.le_of_ble_eq_true rfl) (c_finds G M 2 (by omega)) (kIE ?_)
                exact a_iretE (kX6_copy.at 68 rfl) (by first | (exfalso; omega) | (unfold o_copy; (repeat' split) <;> first | (exfalso; omega) | exact ⟨rfl, rfl⟩))
              · refine a_iload (kX6_copy.at 39 rfl) 5 rfl ?_
                refine a_iflt (tgt := 111) (kX6_copy.at 40 rfl) (by decide) (fun h73 => ?_) (fun h73 => ?_)
                · refine a_aload_n (kX6_copy.at 65 rfl) 0 rfl ?_
                  refine a_iconst (kX6_copy.at 66 rfl) rfl ?_
                  refine AW.callV (as := [vI 2]) (st := []) (kX6_copy.at 67 rfl) ml_X6_85 sv_X6_finds (k := 44) (io_44) rfl rfl ⟨Nat.le_of_ble_eq_true rfl, Nat.le_of_ble_eq_true rfl⟩ ⟨Nat.le_refl _, Nat.le_refl _⟩ rfl rfl (Nat.le_of_ble_eq_true rfl) (c_finds G M 2 (by omega)) (kIE ?_)
                  exact a_iretE (kX6_copy.at 68 rfl) (by first | (exfalso; omega) | (unfold o_copy; (repeat' split) <;> first | (exfalso; omega) | exact ⟨rfl, rfl⟩))
                · refine a_iload_n (kX6_copy.at 41 rfl) 2 rfl ?_
                  refine a_i2l (kX6_copy.at 42 rfl) ?_
                  refine a_iload (kX6_copy.at 43 rfl) 5 rfl ?_
                  refine a_i2l (kX6_copy.at 44 rfl) ?_
                  refine a_ladd (kX6_copy.at 45 rfl) ?_
                  refine a_aload_n (kX6_copy.at 46 rfl) 0 rfl ?_
                  refine a_getR (kX6_copy.at 47 rfl) fg_X6_13 ir_44_1 ?_
                  refine a_iload_n (kX6_copy.at 48 rfl) 1 rfl ?_
                  refine a_iald (x := M 46 s) (kX6_copy.at 49 rfl) (ia_46) (by omega) (rfl) ?_
                  refine a_i2l (kX6_copy.at 50 rfl) ?_
                  refine a_lcmp (kX6_copy.at 51 rfl) ?_
                  refine a_ifgt (tgt := 111) (kX6_copy.at 52 rfl) (by decide) (fun h90 => ?_) (fun h90 => ?_)
                  · rw [cmpI_gt] at h90
                    refine a_aload_n (kX6_copy.at 65 rfl) 0 rfl ?_
                    refine a_iconst (kX6_copy.at 66 rfl) rfl ?_
                    refine AW.callV (as := [vI 2]) (st := []) (kX6_copy.at 67 rfl) ml_X6_85 sv_X6_finds (k := 44) (io_44) rfl rfl ⟨Nat.le_of_ble_eq_true rfl, Nat.le_of_ble_eq_true rfl⟩ ⟨Nat.le_refl _, Nat.le_refl _⟩ rfl rfl (Nat.le_of_ble_eq_true rfl) (c_finds G M 2 (by omega)) (kIE ?_)
                    exact a_iretE (kX6_copy.at 68 rfl) (by first | (exfalso; omega) | (unfold o_copy; (repeat' split) <;> first | (exfalso; omega) | exact ⟨rfl, rfl⟩))
                  · rw [cmpI_gt] at h90
                    refine a_iload (kX6_copy.at 53 rfl) 4 rfl ?_
                    refine a_i2l (kX6_copy.at 54 rfl) ?_
                    refine a_iload (kX6_copy.at 55 rfl) 5 rfl ?_
                    refine a_i2l (kX6_copy.at 56 rfl) ?_
                    refine a_ladd (kX6_copy.at 57 rfl) ?_
                    refine a_aload_n (kX6_copy.at 58 rfl) 0 rfl ?_
                    refine a_getR (kX6_copy.at 59 rfl) fg_X6_13 ir_44_1 ?_
                    refine a_iload_n (kX6_copy.at 60 rfl) 3 rfl ?_
                    refine a_iald (x := M 46 t) (kX6_copy.at 61 rfl) (ia_46) (by omega) (rfl) ?_
                    refine a_i2l (kX6_copy.at 62 rfl) ?_
                    refine a_lcmp (kX6_copy.at 63 rfl) ?_
                    refine a_ifle (tgt := 117) (kX6_copy.at 64 rfl) (by decide) (fun h108 => ?_) (fun h108 => ?_)
                    · rw [cmpI_le] at h108
                      refine a_iconst (kX6_copy.at 69 rfl) rfl ?_
                      refine a_istore (ls' := [(0, vR 44), (1, vI s), (2, vI i), (3, vI t), (4, vI j), (5, vI n), (6, vI 0)]) (kX6_copy.at 70 rfl) (by decide) rfl ?_
                      refine l_copy1 G M s i t j n _ (by omega) (by omega) (by omega) ?_
                      show AW _ _ _ _ _ _ 154 [(0, vR 44), (1, vI s), (2, vI i), (3, vI t), (4, vI j), (5, vI n), (6, vI n)] [] (forR 0 n (cp1 s i) M)
                      refine a_iconst (kX6_copy.at 90 rfl) rfl ?_
                      refine a_istore (ls' := [(0, vR 44), (1, vI s), (2, vI i), (3, vI t), (4, vI j), (5, vI n), (6, vI 0)]) (kX6_copy.at 91 rfl) (by decide) rfl ?_
                      refine l_copy2 G (forR 0 n (cp1 s i) M) s i t j n _ (by omega) (by omega) (by omega) ?_
                      show AW _ _ _ _ _ _ 192 [(0, vR 44), (1, vI s), (2, vI i), (3, vI t), (4, vI j), (5, vI n), (6, vI n)] [] (forR 0 n (cp2 t j) (forR 0 n (cp1 s i) M))
                      refine a_iconst (kX6_copy.at 111 rfl) rfl ?_
                      exact a_iretE (kX6_copy.at 112 rfl) (by first | (exfalso; omega) | (unfold o_copy; (repeat' split) <;> first | (exfalso; omega) | exact ⟨rfl, rfl⟩))
                    · rw [cmpI_le] at h108
                      refine a_aload_n (kX6_copy.at 65 rfl) 0 rfl ?_
                      refine a_iconst (kX6_copy.at 66 rfl) rfl ?_
                      refine AW.callV (as := [vI 2]) (st := []) (kX6_copy.at 67 rfl) ml_X6_85 sv_X6_finds (k := 44) (io_44) rfl rfl ⟨Nat.le_of_ble_eq_true rfl, Nat.le_of_ble_eq_true rfl⟩ ⟨Nat.le_refl _, Nat.le_refl _⟩ rfl rfl (Nat.le_of_ble_eq_true rfl) (c_finds G M 2 (by omega)) (kIE ?_)
                      exact a_iretE (kX6_copy.at 68 rfl) (by first | (exfalso; omega) | (unfold o_copy; (repeat' split) <;> first | (exfalso; omega) | exact ⟨rfl, rfl⟩))
          · refine a_aload_n (kX6_copy.at 31 rfl) 0 rfl ?_
            refine a_iconst (kX6_copy.at 32 rfl) rfl ?_
            refine AW.callV (as := [vI 4]) (st := []) (kX6_copy.at 33 rfl) ml_X6_85 sv_X6_finds (k := 44) (io_44) rfl rfl ⟨Nat.le_of_ble_eq_true rfl, Nat.le_of_ble_eq_true rfl⟩ ⟨Nat.le_refl _, Nat.le_refl _⟩ rfl rfl (Nat.le_of_ble_eq_true rfl) (c_finds G M 4 (by omega)) (kIE ?_)
            exact a_iretE (kX6_copy.at 34 rfl) (by first | (exfalso; omega) | (unfold o_copy; (repeat' split) <;> first | (exfalso; omega) | exact ⟨rfl, rfl⟩))
        · refine a_aload_n (kX6_copy.at 18 rfl) 0 rfl ?_
          refine a_iconst (kX6_copy.at 19 rfl) rfl ?_
          refine AW.callV (as := [vI 1]) (st := []) (kX6_copy.at 20 rfl) ml_X6_85 sv_X6_finds (k := 44) (io_44) rfl rfl ⟨Nat.le_of_ble_eq_true rfl, Nat.le_of_ble_eq_true rfl⟩ ⟨Nat.le_refl _, Nat.le_refl _⟩ rfl rfl (Nat.le_of_ble_eq_true rfl) (c_finds G M 1 (by omega)) (kIE ?_)
          exact a_iretE (kX6_copy.at 21 rfl) (by first | (exfalso; omega) | (unfold o_copy; (repeat' split) <;> first | (exfalso; omega) | exact ⟨rfl, rfl⟩))
    · refine a_bipush (kX6_copy.at 6 rfl) rfl rfl ?_
      exact a_iretE (kX6_copy.at 7 rfl) (by first | (exfalso; omega) | (unfold o_copy; (repeat' split) <;> first | (exfalso; omega) | exact ⟨rfl, rfl⟩))
