/-! ===== the class: read ===== -/
theorem QK.K {M K L : Mem} (h : QK M K) (e : ∀ (c : Nat) (x : Int), (c = 44 ∧ x = 28) ∨ c = 60 → L c x = K c x) : QK M L := by
  refine ⟨by rw [e _ _ (by omega)]; exact h.1, by rw [e _ _ (by omega)]; exact h.2.1, fun i a b => ?_⟩
  rw [e 44 28 (by omega)] at b
  rw [e _ _ (by omega), e _ _ (by omega), e _ _ (by omega)]
  exact h.2.2 i a b
theorem CS.K {M K L : Mem} (h : CS M K) (e : ∀ (c : Nat) (x : Int), (c = 44 ∧ x = 4) ∨ (45 ≤ c ∧ c ≤ 47) → L c x = K c x) : CS M L := by
  refine ⟨fun s hs => ?_, by rw [e _ _ (by omega)]; exact h.2⟩
  have z := h.1 s hs
  rw [e 45 _ (by omega), e 46 _ (by omega)]
  exact ⟨z.1, z.2.1, fun a i b c => by rw [e _ _ (by omega)]; exact z.2.2 a i b c⟩
/-- under way: events came, nothing was told again yet -/
noncomputable def RW (M K N J : Mem) : Prop := CTe N J ∧ MB J ∧ (∀ (c : Nat) (x : Int), c ≠ 2 → ¬ (18 ≤ c ∧ c ≤ 20) → N c x = M c x) ∧ ∀ (c : Nat) (x : Int), c ≠ 51 → ¬ (c = 44 ∧ x = 9) → J c x = K c x
theorem x_kread (G : GT) (M K N J : Mem) (n : Int) (P : Int → Mem → Prop) (hC : Cp M K) (hW : RW M K N J) (hP : ∀ N1, Cp N1 J → Fz M N1 → P n N1) : AW G RX5 cX5_read 5 (some .int) (XM G 5 (pI P)) 135 [(0, vR 0), (3, vI n)] [] N := by
  refine a_aload_n (kX5_read.at 75 rfl) 0 rfl ?_
  refine AW.callV (as := []) (st := []) (kX5_read.at 76 rfl) ml_X5_64 sv_X5_retell (k := 0) (io_0) rfl rfl ⟨Nat.le_of_ble_eq_true rfl, Nat.le_of_ble_eq_true rfl⟩ ⟨Nat.le_refl _, Nat.le_refl _⟩ rfl rfl (Nat.le_of_ble_eq_true rfl) (k_retell G N J hW.1 hW.2.1) (kV fun N1 hN1 => ?_)
  skip
  refine a_iload_n (kX5_read.at 77 rfl) 1 rfl ?_
  exact a_iret (kX5_read.at 78 rfl) (hP N1 (Cp_retell hW.1 ((hC.2.2.1.K (fun c x a => hW.2.2.2 c x (by omega) (by omega))).ext (fun c x a => hW.2.2.1 c x (by omega) (by omega))) ((hC.2.2.2.2.1.K (fun c x a => hW.2.2.2 c x (by omega) (by omega))).ext (fun c x a => hW.2.2.1 c x (by omega) (by omega))) hN1) (fun c x a => by rw [hN1.2.z c x a, hW.2.2.1 c x (by omega) (by omega)]))
theorem rdE_s (s sz : Int) (f : Nat) (n : Int) (N : Mem) : rdE s sz (f + 1) n N = if 3 * n + 3 ≤ sz then (if (o_event N (N 47 (60 * s + 3 * n)) (N 47 (60 * s + 3 * n + 1)) (N 47 (60 * s + 3 * n + 2))).1 < 0 then (n, N) else rdE s sz f (n + 1) (o_event N (N 47 (60 * s + 3 * n)) (N 47 (60 * s + 3 * n + 1)) (N 47 (60 * s + 3 * n + 2))).2) else (n, N) := rfl
theorem rdE_stop {s sz n : Int} {f : Nat} {N : Mem} (h : ¬ 3 * n + 3 ≤ sz ∨ N 44 9 = 8 ∨ ¬ ((0 ≤ N 47 (60 * s + 3 * n) ∧ N 47 (60 * s + 3 * n) ≤ 3) ∧ (0 ≤ N 47 (60 * s + 3 * n + 1) ∧ N 47 (60 * s + 3 * n + 1) ≤ 15) ∧ (0 ≤ N 47 (60 * s + 3 * n + 2) ∧ N 47 (60 * s + 3 * n + 2) ≤ 7))) : rdE s sz (f + 1) n N = (n, N) := by
  rw [rdE_s]
  by_cases h1 : 3 * n + 3 ≤ sz
  · rw [if_pos h1, if_pos]
    unfold o_event
    by_cases h2 : (0 ≤ N 47 (60 * s + 3 * n) ∧ N 47 (60 * s + 3 * n) ≤ 3) ∧ (0 ≤ N 47 (60 * s + 3 * n + 1) ∧ N 47 (60 * s + 3 * n + 1) ≤ 15) ∧ (0 ≤ N 47 (60 * s + 3 * n + 2) ∧ N 47 (60 * s + 3 * n + 2) ≤ 7)
    · rw [if_pos h2, if_pos (by omega)]
      show (-4 : Int) < 0
      decide
    · rw [if_neg h2]
      show (-2 : Int) < 0
      decide
  · rw [if_neg h1]
theorem rdE_go {s sz n : Int} {f : Nat} {N : Mem} (h1 : 3 * n + 3 ≤ sz) (h9 : 0 ≤ N 44 9 ∧ N 44 9 ≤ 7) (h2 : (0 ≤ N 47 (60 * s + 3 * n) ∧ N 47 (60 * s + 3 * n) ≤ 3) ∧ (0 ≤ N 47 (60 * s + 3 * n + 1) ∧ N 47 (60 * s + 3 * n + 1) ≤ 15) ∧ (0 ≤ N 47 (60 * s + 3 * n + 2) ∧ N 47 (60 * s + 3 * n + 2) ≤ 7)) : rdE s sz (f + 1) n N = rdE s sz f (n + 1) (keeps N (N 47 (60 * s + 3 * n)) (N 47 (60 * s + 3 * n + 1)) (N 47 (60 * s + 3 * n + 2))) := by
  have e : o_event N (N 47 (60 * s + 3 * n)) (N 47 (60 * s + 3 * n + 1)) (N 47 (60 * s + 3 * n + 2)) = (N 44 9 + 1, keeps N (N 47 (60 * s + 3 * n)) (N 47 (60 * s + 3 * n + 1)) (N 47 (60 * s + 3 * n + 2))) := (if_pos h2).trans (if_neg (by omega))
  rw [rdE_s, e, if_pos h1, if_neg (by show ¬ (N 44 9 + 1 < 0); omega)]
theorem keeps_f (K : Mem) (a b c : Int) (k : Nat) (x : Int) (h : k ≠ 51) (h1 : ¬ (k = 44 ∧ x = 9)) : keeps K a b c k x = K k x := by
  unfold keeps
  by_cases e : k = 44
  · rw [e, rd_ni (by omega), rd_ne (by omega), rd_ne (by omega), rd_ne (by omega)]
  · rw [rd_ne e, rd_ne h, rd_ne h, rd_ne h]
set_option maxHeartbeats 4000000 in
set_option maxRecDepth 100000 in
theorem l_kread (G : GT) (M K : Mem) (s : Nat) (a : Int) (P : Int → Mem → Prop) (hC : Cp M K) (hs : s < 4) (es : a = (s : Int)) (hf : 0 ≤ K 45 a) (hz : 0 ≤ K 46 a ∧ K 46 a ≤ 60) : ∀ (fu : Nat) (n i : Int) (N J : Mem), 0 ≤ n → n + (fu : Int) = 21 → i = 3 * n → RW M K N J → (∀ N1, Cp N1 (rdE a (K 46 a) fu n J).2 → Fz M N1 → P (rdE a (K 46 a) fu n J).1 N1) → AW G RX5 cX5_read 5 (some .int) (XM G 5 (pI P)) 37 [(0, vR 0), (1, vI a), (2, vR (10 + s)), (3, vI n), (4, vI i)] [] N := by
  intro fu
  induction fu with
  | zero =>
    intro n i N J h0 hn hi hW hP
    have z1 := hC.2.2.2.2.1.1 s hs
    rw [← es] at z1
    have ez : N (10 + s) 2 = K 46 a := by rw [hW.2.2.1 _ _ (by omega) (by omega)]; exact z1.2.1
    refine a_iload (kX5_read.at 23 rfl) 4 rfl ?_
    refine a_iconst (kX5_read.at 24 rfl) rfl ?_
    refine a_iadd (kX5_read.at 25 rfl) (inr (by omega)) ?_
    refine a_aload_n (kX5_read.at 26 rfl) 2 rfl ?_
    refine a_getI (x := N (10 + s) 2) (kX5_read.at 27 rfl) fg_X5_105 (iI_W2 hs) (rfl) ?_
    refine a_icmpge (tgt := 135) (kX5_read.at 28 rfl) (by decide) (fun h45 => ?_) (fun h45 => ?_)
    · refine AW.loc (ls' := [(0, vR 0), (3, vI n)]) [0, 3] rfl ?_
      exact x_kread G M K N J n P hC hW hP
    · exfalso; omega
  | succ fu ih =>
    intro n i N J h0 hn hi hW hP
    have z1 := hC.2.2.2.2.1.1 s hs
    rw [← es] at z1
    have ez : N (10 + s) 2 = K 46 a := by rw [hW.2.2.1 _ _ (by omega) (by omega)]; exact z1.2.1
    have e9 : N 2 3 = J 44 9 := hW.1.2.1.1
    have h9 := hW.2.1.1.2.2
    have hit : 3 * n + 2 < K 46 a → N (40 + s) i = J 47 (60 * a + 3 * n) ∧ N (40 + s) (i + 1) = J 47 (60 * a + 3 * n + 1) ∧ N (40 + s) (i + 2) = J 47 (60 * a + 3 * n + 2) := fun u => by
      rw [hW.2.2.1 _ _ (by omega) (by omega), hW.2.2.1 _ _ (by omega) (by omega), hW.2.2.1 _ _ (by omega) (by omega), hW.2.2.2 _ _ (by omega) (by omega), hW.2.2.2 _ _ (by omega) (by omega), hW.2.2.2 _ _ (by omega) (by omega), z1.2.2 hf i (by omega) (by omega), z1.2.2 hf (i + 1) (by omega) (by omega), z1.2.2 hf (i + 2) (by omega) (by omega), hi, show 60 * a + (3 * n + 1) = 60 * a + 3 * n + 1 by omega, show 60 * a + (3 * n + 2) = 60 * a + 3 * n + 2 by omega]
      exact ⟨rfl, rfl, rfl⟩
    refine a_iload (kX5_read.at 23 rfl) 4 rfl ?_
    refine a_iconst (kX5_read.at 24 rfl) rfl ?_
    refine a_iadd (kX5_read.at 25 rfl) (inr (by omega)) ?_
    refine a_aload_n (kX5_read.at 26 rfl) 2 rfl ?_
    refine a_getI (x := N (10 + s) 2) (kX5_read.at 27 rfl) fg_X5_105 (iI_W2 hs) (rfl) ?_
    refine a_icmpge (tgt := 135) (kX5_read.at 28 rfl) (by decide) (fun h45 => ?_) (fun h45 => ?_)
    · refine AW.loc (ls' := [(0, vR 0), (3, vI n)]) [0, 3] rfl ?_
      exact x_kread G M K N J n P hC hW (fun N1 u v => by have z := hP N1; rw [rdE_stop (by omega)] at z; exact z u v)
    · refine a_aload_n (kX5_read.at 29 rfl) 0 rfl ?_
      refine a_getR (kX5_read.at 30 rfl) fg_X5_19 ir_0_1 ?_
      refine a_getI (x := N 2 3) (kX5_read.at 31 rfl) fg_X5_91 ii_2_3 (rfl) ?_
      refine a_bipush (kX5_read.at 32 rfl) rfl rfl ?_
      refine a_icmpge (tgt := 135) (kX5_read.at 33 rfl) (by decide) (fun h57 => ?_) (fun h57 => ?_)
      · refine AW.loc (ls' := [(0, vR 0), (3, vI n)]) [0, 3] rfl ?_
        exact x_kread G M K N J n P hC hW (fun N1 u v => by have z := hP N1; rw [rdE_stop (by omega)] at z; exact z u v)
      · obtain ⟨i0, i1, i2⟩ := hit (by omega)
        refine a_aload_n (kX5_read.at 34 rfl) 2 rfl ?_
        refine a_getR (kX5_read.at 35 rfl) fg_X5_108 (iR_W0 hs) ?_
        refine a_iload (kX5_read.at 36 rfl) 4 rfl ?_
        refine a_iald (x := N (40 + s) i) (kX5_read.at 37 rfl) (iA_W hs) (by omega) (rfl) ?_
        refine a_aload_n (kX5_read.at 38 rfl) 2 rfl ?_
        refine a_getR (kX5_read.at 39 rfl) fg_X5_108 (iR_W0 hs) ?_
        refine a_iload (kX5_read.at 40 rfl) 4 rfl ?_
        refine a_iconst (kX5_read.at 41 rfl) rfl ?_
        refine a_iadd (kX5_read.at 42 rfl) (inr (by omega)) ?_
        refine a_iald (x := N (40 + s) (i + 1)) (kX5_read.at 43 rfl) (iA_W hs) (by omega) (rfl) ?_
        refine a_aload_n (kX5_read.at 44 rfl) 2 rfl ?_
        refine a_getR (kX5_read.at 45 rfl) fg_X5_108 (iR_W0 hs) ?_
        refine a_iload (kX5_read.at 46 rfl) 4 rfl ?_
        refine a_iconst (kX5_read.at 47 rfl) rfl ?_
        refine a_iadd (kX5_read.at 48 rfl) (inr (by omega)) ?_
        refine a_iald (x := N (40 + s) (i + 2)) (kX5_read.at 49 rfl) (iA_W hs) (by omega) (rfl) ?_
        refine AW.callS (as := [vI (N (40 + s) i), vI (N (40 + s) (i + 1)), vI (N (40 + s) (i + 2))]) (st := []) (kX5_read.at 50 rfl) ml_X5_87 ss_X5_mayBeEvent ⟨Nat.le_of_ble_eq_true rfl, Nat.le_of_ble_eq_true rfl⟩ ⟨Nat.le_refl _, Nat.le_refl _⟩ rfl rfl (Nat.le_of_ble_eq_true rfl) (k_mayBeEvent G N (N (40 + s) i) (N (40 + s) (i + 1)) (N (40 + s) (i + 2))) (kIE ?_)
        refine a_ifneB (tgt := 94) (kX5_read.at 51 rfl) (by decide) (fun h88 => ?_) (fun h88 => ?_)
        · refine a_aload_n (kX5_read.at 53 rfl) 0 rfl ?_
          refine a_getR (kX5_read.at 54 rfl) fg_X5_19 ir_0_1 ?_
          refine a_aload_n (kX5_read.at 55 rfl) 2 rfl ?_
          refine a_getR (kX5_read.at 56 rfl) fg_X5_108 (iR_W0 hs) ?_
          refine a_iload (kX5_read.at 57 rfl) 4 rfl ?_
          refine a_iald (x := N (40 + s) i) (kX5_read.at 58 rfl) (iA_W hs) (by omega) (rfl) ?_
          refine a_aload_n (kX5_read.at 59 rfl) 2 rfl ?_
          refine a_getR (kX5_read.at 60 rfl) fg_X5_108 (iR_W0 hs) ?_
          refine a_iload (kX5_read.at 61 rfl) 4 rfl ?_
          refine a_iconst (kX5_read.at 62 rfl) rfl ?_
          refine a_iadd (kX5_read.at 63 rfl) (inr (by omega)) ?_
          refine a_iald (x := N (40 + s) (i + 1)) (kX5_read.at 64 rfl) (iA_W hs) (by omega) (rfl) ?_
          refine a_aload_n (kX5_read.at 65 rfl) 2 rfl ?_
          refine a_getR (kX5_read.at 66 rfl) fg_X5_108 (iR_W0 hs) ?_
          refine a_iload (kX5_read.at 67 rfl) 4 rfl ?_
          refine a_iconst (kX5_read.at 68 rfl) rfl ?_
          refine a_iadd (kX5_read.at 69 rfl) (inr (by omega)) ?_
          refine a_iald (x := N (40 + s) (i + 2)) (kX5_read.at 70 rfl) (iA_W hs) (by omega) (rfl) ?_
          refine AW.callV (as := [vI (N (40 + s) i), vI (N (40 + s) (i + 1)), vI (N (40 + s) (i + 2))]) (st := []) (kX5_read.at 71 rfl) ml_X5_94 sv_X4_append (k := 2) (io_2) rfl rfl ⟨Nat.le_of_ble_eq_true rfl, Nat.le_of_ble_eq_true rfl⟩ ⟨Nat.le_refl _, Nat.le_refl _⟩ rfl rfl (Nat.le_of_ble_eq_true rfl) (k_appendE G N (N (40 + s) i) (N (40 + s) (i + 1)) (N (40 + s) (i + 2)) (by omega)) (kVE ?_)
          refine a_iinc (ls' := [(0, vR 0), (1, vI a), (2, vR (10 + s)), (3, vI (n + 1)), (4, vI i)]) (kX5_read.at 72 rfl) 3 rfl (by decide) (inr (by omega)) rfl ?_
          refine a_iinc (ls' := [(0, vR 0), (1, vI a), (2, vR (10 + s)), (3, vI (n + 1)), (4, vI (i + 3))]) (kX5_read.at 73 rfl) 4 rfl (by decide) (inr (by omega)) rfl ?_
          refine a_goto (tgt := 37) (kX5_read.at 74 rfl) (by decide) ?_
          refine ih (n + 1) (i + 3) _ (keeps J (J 47 (60 * a + 3 * n)) (J 47 (60 * a + 3 * n + 1)) (J 47 (60 * a + 3 * n + 2))) (by omega) (by omega) (by omega) ?_ ?_
          · rw [i0, i1, i2]
            exact ⟨CTe_keeps hW.1 (by omega) (by omega) (by omega) (by omega), MB_keeps hW.2.1 _ _ _ (by omega), fun c x u v => by rw [apE_f _ _ _ _ c x u v]; exact hW.2.2.1 c x u v, fun c x u v => by rw [keeps_f _ _ _ _ c x u v]; exact hW.2.2.2 c x u v⟩
          · intro N1 u v
            have z := hP N1
            rw [rdE_go (by omega) (by omega) (by omega)] at z
            exact z u v
        · refine a_goto (tgt := 135) (kX5_read.at 52 rfl) (by decide) ?_
          refine AW.loc (ls' := [(0, vR 0), (3, vI n)]) [0, 3] rfl ?_
          exact x_kread G M K N J n P hC hW (fun N1 u v => by have z := hP N1; rw [rdE_stop (by omega)] at z; exact z u v)
theorem k_read (G : GT) (M K : Mem) (a : Int) (hC : Cp M K) (h : MB K) : AM G yX5_read cX5_read 5 (some .int) 5 M [vR 0, vI a] (pI fun r N => r = (o_read K a).1 ∧ Cp N (o_read K a).2 ∧ Fz M N) := by
  refine AM.mk (own := RX5) rfl sv_X5_read.1.2.2.2.2.2 (Nat.le_of_ble_eq_true rfl) rfl ?_
  refine a_iload_n (kX5_read.at 0 rfl) 1 rfl ?_
  refine a_iconst (kX5_read.at 1 rfl) rfl ?_
  refine AW.callS (as := [vI a, vI 4]) (st := []) (kX5_read.at 2 rfl) ml_X5_74 ss_X5_isBelow ⟨Nat.le_of_ble_eq_true rfl, Nat.le_of_ble_eq_true rfl⟩ ⟨Nat.le_refl _, Nat.le_refl _⟩ rfl rfl (Nat.le_of_ble_eq_true rfl) (k_isBelow G M a 4) (kIE ?_)
  refine a_ifneB (tgt := 11) (kX5_read.at 3 rfl) (by decide) (fun h5 => ?_) (fun h5 => ?_)
  · refine a_aload_n (kX5_read.at 6 rfl) 0 rfl ?_
    refine a_getR (kX5_read.at 7 rfl) fg_X5_45 ir_0_6 ?_
    obtain ⟨s, es⟩ := nat_of (x := a) (by omega)
    have hs : s < 4 := by omega
    have hz := hC.2.2.2.2.1.1 s hs
    rw [← es] at hz
    have hi := h.2.2.2 a (by omega) (by omega)
    refine a_iload_n (kX5_read.at 8 rfl) 1 rfl ?_
    refine a_aald (j := 10 + s) (kX5_read.at 9 rfl) (rs := [10, 11, 12, 13]) rfl (by omega) (row_at (by omega) (by omega)) ?_
    refine a_astore_n (ls' := [(0, vR 0), (1, vI a), (2, vR (10 + s))]) (kX5_read.at 10 rfl) (by decide) rfl ?_
    refine a_aload_n (kX5_read.at 11 rfl) 2 rfl ?_
    refine a_getI (x := M (10 + s) 1) (kX5_read.at 12 rfl) fg_X5_98 (iI_W1 hs) (rfl) ?_
    refine a_iconst (kX5_read.at 13 rfl) rfl ?_
    refine a_icmpne (tgt := 32) (kX5_read.at 14 rfl) (by decide) (fun h23 => ?_) (fun h23 => ?_)
    · refine a_iconst (kX5_read.at 19 rfl) rfl ?_
      refine a_istore_n (ls' := [(0, vR 0), (1, vI a), (2, vR (10 + s)), (3, vI 0)]) (kX5_read.at 20 rfl) (by decide) rfl ?_
      refine a_iconst (kX5_read.at 21 rfl) rfl ?_
      refine a_istore (ls' := [(0, vR 0), (1, vI a), (2, vR (10 + s)), (3, vI 0), (4, vI 0)]) (kX5_read.at 22 rfl) (by decide) rfl ?_
      exact l_kread G M K s a _ hC hs es (by omega) (by omega) 21 0 0 M K (by omega) (by omega) (by omega) ⟨hC.1, h, fun _ _ _ _ => rfl, fun _ _ _ _ => rfl⟩ (fun N1 u v => by unfold o_read; rw [if_pos (by omega), if_neg (by omega)]; exact ⟨rfl, u, v⟩)
    · refine a_aload_n (kX5_read.at 15 rfl) 0 rfl ?_
      refine a_iconst (kX5_read.at 16 rfl) rfl ?_
      refine AW.callV (as := [vI 1]) (st := []) (kX5_read.at 17 rfl) ml_X5_101 sv_X5_found (k := 0) (io_0) rfl rfl ⟨Nat.le_of_ble_eq_true rfl, Nat.le_of_ble_eq_true rfl⟩ ⟨Nat.le_refl _, Nat.le_refl _⟩ rfl rfl (Nat.le_of_ble_eq_true rfl) (k_found G M 1 (by omega)) (kIE ?_)
      exact a_iret (kX5_read.at 18 rfl) (by unfold o_read; first | (rw [if_neg (by omega)]; exact ⟨rfl, hC, fun _ _ _ => rfl⟩) | (rw [if_pos (by omega), if_pos (by omega)]; exact ⟨rfl, Cp_found hC h 1, Fz_found M 1⟩))
  · refine a_bipush (kX5_read.at 4 rfl) rfl rfl ?_
    exact a_iret (kX5_read.at 5 rfl) (by unfold o_read; first | (rw [if_neg (by omega)]; exact ⟨rfl, hC, fun _ _ _ => rfl⟩) | (rw [if_pos (by omega), if_pos (by omega)]; exact ⟨rfl, Cp_found hC h 1, Fz_found M 1⟩))
