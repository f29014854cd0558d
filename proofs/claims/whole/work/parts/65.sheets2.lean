/-! ===== the class: copy, write, seen, forget ===== -/
theorem cp_all (K : Mem) (s i t j : Int) {n : Int} (hn : 0 ≤ n) : (∀ c : Nat, c ≠ 47 → c ≠ 48 → forR 0 n (cp2 t j) (forR 0 n (cp1 s i) K) c = K c) ∧ ∀ x, forR 0 n (cp2 t j) (forR 0 n (cp1 s i) K) 47 x = if 60 * t + j ≤ x ∧ x < 60 * t + j + n then K 47 (60 * s + i + (x - (60 * t + j))) else K 47 x := by
  have h1 : (∀ c : Nat, c ≠ 48 → forR 0 n (cp1 s i) K c = K c) ∧ ∀ a, 0 ≤ a → a < n → forR 0 n (cp1 s i) K 48 a = K 47 (60 * s + i + a) := by
    refine forR_inv (lo := 0) (hi := n) (f := cp1 s i) (a := K) (fun m L => (∀ c : Nat, c ≠ 48 → L c = K c) ∧ ∀ a, 0 ≤ a → a < m → L 48 a = K 47 (60 * s + i + a)) hn ⟨fun _ _ => rfl, fun a b c => by omega⟩ (fun m L a b hL => ?_)
    unfold cp1
    refine ⟨fun c hc => by rw [upm_ne hc]; exact hL.1 c hc, fun x y z => ?_⟩
    by_cases e : x = m
    · rw [e, rd_eq, hL.1 47 (by omega)]
    · rw [rd_ni e]
      exact hL.2 x y (by omega)
  obtain ⟨L1, e1⟩ : ∃ L1, L1 = forR 0 n (cp1 s i) K := ⟨_, rfl⟩
  rw [← e1] at h1 ⊢
  have key := forR_inv (lo := 0) (hi := n) (f := cp2 t j) (a := L1) (fun m L => (∀ c : Nat, c ≠ 47 → L c = L1 c) ∧ ∀ x, L 47 x = if 60 * t + j ≤ x ∧ x < 60 * t + j + m then K 47 (60 * s + i + (x - (60 * t + j))) else K 47 x) hn ⟨fun _ _ => rfl, fun x => by rw [if_neg (by omega), h1.1 47 (by omega)]⟩ (fun m L a b hL => ?_)
  · exact ⟨fun c u v => by rw [key.1 c u, h1.1 c v], key.2⟩
  · unfold cp2
    refine ⟨fun c hc => by rw [upm_ne hc]; exact hL.1 c hc, fun x => ?_⟩
    by_cases e : x = 60 * t + j + m
    · rw [e, rd_eq, if_pos (by omega), hL.1 48 (by omega), h1.2 m a b, show 60 * s + i + (60 * t + j + m - (60 * t + j)) = 60 * s + i + m by omega]
    · rw [rd_ni e, hL.2 x]
      by_cases e2 : 60 * t + j ≤ x ∧ x < 60 * t + j + m
      · rw [if_pos e2, if_pos (by omega)]
      · rw [if_neg e2, if_neg (by omega)]
theorem copy_cp {M K : Mem} {s s2 : Nat} {a i b j n : Int} (hC : Cp M K) (h : MB K) (hs : s < 4) (hs2 : s2 < 4) (es : a = (s : Int)) (es2 : b = (s2 : Int)) (hf : 0 ≤ K 45 a ∧ K 45 a = K 45 b) (hb : 0 ≤ i ∧ 0 ≤ j ∧ 0 ≤ n ∧ i + n ≤ K 46 a ∧ j + n ≤ K 46 b) :
    Cp (upc M (40 + s2) (cpyI (M (40 + s)) (M (40 + s2)) i j n)) (forR 0 n (cp2 b j) (forR 0 n (cp1 a i) K)) ∧ Fz M (upc M (40 + s2) (cpyI (M (40 + s)) (M (40 + s2)) i j n)) := by
  have hA := cp_all K a i b j hb.2.2.1
  have eN : ∀ (c : Nat) (x : Int), c ≠ 40 + s2 → upc M (40 + s2) (cpyI (M (40 + s)) (M (40 + s2)) i j n) c x = M c x := fun c x u => by rw [upc_ne u]
  have z1 := hC.2.2.2.2.1.1 s hs
  have z2 := hC.2.2.2.2.1.1 s2 hs2
  have w2 := h.2.2.2 b (by omega) (by omega)
  rw [← es] at z1
  rw [← es2] at z2
  refine ⟨hC.sh h (fun c x u => eN c x (by omega)) ⟨⟨?_, ?_, ?_, ?_⟩, fun j => ?_, fun j => ?_⟩ ?_ (CS_row (s := s2) hC.2.2.2.2.1 h.2.2.2 hs2 (eN 0 10 (by omega)) ?_ (fun r x u v => ⟨eN _ _ (by omega), eN _ _ (by omega)⟩) (fun r u v => ⟨?_, ?_, fun i w y => ?_⟩) ⟨?_, ?_, fun y x w v => ?_⟩), fun c x u => eN c x (by omega)⟩
  · rw [hA.1 44 (by omega) (by omega)]
  · rw [hA.1 44 (by omega) (by omega)]
  · rw [hA.1 44 (by omega) (by omega)]
  · rw [hA.1 44 (by omega) (by omega)]
  · rw [hA.1 49 (by omega) (by omega)]
  · rw [hA.1 51 (by omega) (by omega)]
  · refine QK.ext (M := M) ⟨?_, ?_, fun i w y => ?_⟩ (fun c x u => eN c x (by omega))
    · rw [hA.1 44 (by omega) (by omega)]; exact hC.2.2.1.1
    · rw [hA.1 44 (by omega) (by omega)]; exact hC.2.2.1.2.1
    · rw [hA.1 44 (by omega) (by omega)] at y
      rw [hA.1 60 (by omega) (by omega)]; exact hC.2.2.1.2.2 i w y
  · rw [hA.1 44 (by omega) (by omega)]
  · rw [hA.1 45 (by omega) (by omega)]
  · rw [hA.1 46 (by omega) (by omega)]
  · rw [hA.2, if_neg (by omega)]
  · rw [eN _ _ (by omega), hA.1 45 (by omega) (by omega), ← es2]; exact z2.1
  · rw [eN _ _ (by omega), hA.1 46 (by omega) (by omega), ← es2]; exact z2.2.1
  · rw [hA.1 46 (by omega) (by omega), ← es2] at v
    rw [hA.2, upc_same, ← es2]
    unfold cpyI
    by_cases e : j ≤ x ∧ x < j + n
    · rw [if_pos e, if_pos (by omega), z1.2.2 hf.1 (i + (x - j)) (by omega) (by omega), show 60 * a + i + (60 * b + x - (60 * b + j)) = 60 * a + (i + (x - j)) by omega]
    · rw [if_neg e, if_neg (by omega)]
      exact z2.2.2 (by omega) x w v
theorem k_copy (G : GT) (M K : Mem) (a i b j n : Int) (hC : Cp M K) (h : MB K) : AM G yX5_copy cX5_copy 8 (some .int) 1 M [vR 0, vI a, vI i, vI b, vI j, vI n] (pI fun r N => r = (o_copy K a i b j n).1 ∧ Cp N (o_copy K a i b j n).2 ∧ Fz M N) := by
  refine AM.mk (own := RX5) rfl sv_X5_copy.1.2.2.2.2.2 (Nat.le_of_ble_eq_true rfl) rfl ?_
  refine a_iload_n (kX5_copy.at 0 rfl) 1 rfl ?_
  refine a_iconst (kX5_copy.at 1 rfl) rfl ?_
  refine AW.callS (as := [vI a, vI 4]) (st := []) (kX5_copy.at 2 rfl) ml_X5_74 ss_X5_isBelow ⟨Nat.le_of_ble_eq_true rfl, Nat.le_of_ble_eq_true rfl⟩ ⟨Nat.le_refl _, Nat.le_refl _⟩ rfl rfl (Nat.le_of_ble_eq_true rfl) (k_isBelow G M a 4) (kIE ?_)
  refine a_ifeqB (tgt := 16) (kX5_copy.at 3 rfl) (by decide) (fun h5 => ?_) (fun h5 => ?_)
  · refine a_bipush (kX5_copy.at 8 rfl) rfl rfl ?_
    exact a_iret (kX5_copy.at 9 rfl) (by unfold o_copy; first | (rw [if_neg (by omega)]; exact ⟨rfl, hC, fun _ _ _ => rfl⟩) | (rw [if_pos (by omega), if_pos (by omega)]; exact ⟨rfl, Cp_found hC h 1, Fz_found M 1⟩) | (rw [if_pos (by omega), if_neg (by omega), if_neg (by omega)]; exact ⟨rfl, Cp_found hC h 4, Fz_found M 4⟩) | (rw [if_pos (by omega), if_neg (by omega), if_pos (by omega), if_neg (by omega)]; exact ⟨rfl, Cp_found hC h 2, Fz_found M 2⟩) | (rw [if_pos (by omega), if_neg (by omega), if_pos (by omega), if_pos (by omega)]; exact ⟨rfl, hcp⟩))
  · refine a_iload_n (kX5_copy.at 4 rfl) 3 rfl ?_
    refine a_iconst (kX5_copy.at 5 rfl) rfl ?_
    refine AW.callS (as := [vI b, vI 4]) (st := []) (kX5_copy.at 6 rfl) ml_X5_74 ss_X5_isBelow ⟨Nat.le_of_ble_eq_true rfl, Nat.le_of_ble_eq_true rfl⟩ ⟨Nat.le_refl _, Nat.le_refl _⟩ rfl rfl (Nat.le_of_ble_eq_true rfl) (k_isBelow G M b 4) (kIE ?_)
    refine a_ifneB (tgt := 19) (kX5_copy.at 7 rfl) (by decide) (fun h13 => ?_) (fun h13 => ?_)
    · refine a_aload_n (kX5_copy.at 10 rfl) 0 rfl ?_
      refine a_getR (kX5_copy.at 11 rfl) fg_X5_45 ir_0_6 ?_
      obtain ⟨s, es⟩ := nat_of (x := a) (by omega)
      have hs : s < 4 := by omega
      have hz := hC.2.2.2.2.1.1 s hs
      rw [← es] at hz
      have hi := h.2.2.2 a (by omega) (by omega)
      obtain ⟨s2, es2⟩ := nat_of (x := b) (by omega)
      have hs2 : s2 < 4 := by omega
      have hz2 := hC.2.2.2.2.1.1 s2 hs2
      rw [← es2] at hz2
      have hi2 := h.2.2.2 b (by omega) (by omega)
      refine a_iload_n (kX5_copy.at 12 rfl) 1 rfl ?_
      refine a_aald (j := 10 + s) (kX5_copy.at 13 rfl) (rs := [10, 11, 12, 13]) rfl (by omega) (row_at (by omega) (by omega)) ?_
      refine a_astore (ls' := [(0, vR 0), (1, vI a), (2, vI i), (3, vI b), (4, vI j), (5, vI n), (6, vR (10 + s))]) (kX5_copy.at 14 rfl) (by decide) rfl ?_
      refine a_aload_n (kX5_copy.at 15 rfl) 0 rfl ?_
      refine a_getR (kX5_copy.at 16 rfl) fg_X5_45 ir_0_6 ?_
      refine a_iload_n (kX5_copy.at 17 rfl) 3 rfl ?_
      refine a_aald (j := 10 + s2) (kX5_copy.at 18 rfl) (rs := [10, 11, 12, 13]) rfl (by omega) (row_at (by omega) (by omega)) ?_
      refine a_astore (ls' := [(0, vR 0), (1, vI a), (2, vI i), (3, vI b), (4, vI j), (5, vI n), (6, vR (10 + s)), (7, vR (10 + s2))]) (kX5_copy.at 19 rfl) (by decide) rfl ?_
      refine a_aload (kX5_copy.at 20 rfl) 6 rfl ?_
      refine a_getI (x := M (10 + s) 1) (kX5_copy.at 21 rfl) fg_X5_98 (iI_W1 hs) (rfl) ?_
      refine a_iconst (kX5_copy.at 22 rfl) rfl ?_
      refine a_icmpeq (tgt := 53) (kX5_copy.at 23 rfl) (by decide) (fun h41 => ?_) (fun h41 => ?_)
      · refine a_aload_n (kX5_copy.at 28 rfl) 0 rfl ?_
        refine a_iconst (kX5_copy.at 29 rfl) rfl ?_
        refine AW.callV (as := [vI 1]) (st := []) (kX5_copy.at 30 rfl) ml_X5_101 sv_X5_found (k := 0) (io_0) rfl rfl ⟨Nat.le_of_ble_eq_true rfl, Nat.le_of_ble_eq_true rfl⟩ ⟨Nat.le_refl _, Nat.le_refl _⟩ rfl rfl (Nat.le_of_ble_eq_true rfl) (k_found G M 1 (by omega)) (kIE ?_)
        exact a_iret (kX5_copy.at 31 rfl) (by unfold o_copy; first | (rw [if_neg (by omega)]; exact ⟨rfl, hC, fun _ _ _ => rfl⟩) | (rw [if_pos (by omega), if_pos (by omega)]; exact ⟨rfl, Cp_found hC h 1, Fz_found M 1⟩) | (rw [if_pos (by omega), if_neg (by omega), if_neg (by omega)]; exact ⟨rfl, Cp_found hC h 4, Fz_found M 4⟩) | (rw [if_pos (by omega), if_neg (by omega), if_pos (by omega), if_neg (by omega)]; exact ⟨rfl, Cp_found hC h 2, Fz_found M 2⟩) | (rw [if_pos (by omega), if_neg (by omega), if_pos (by omega), if_pos (by omega)]; exact ⟨rfl, hcp⟩))
      · refine a_aload (kX5_copy.at 24 rfl) 7 rfl ?_
        refine a_getI (x := M (10 + s2) 1) (kX5_copy.at 25 rfl) fg_X5_98 (iI_W1 hs2) (rfl) ?_
        refine a_iconst (kX5_copy.at 26 rfl) rfl ?_
        refine a_icmpne (tgt := 59) (kX5_copy.at 27 rfl) (by decide) (fun h50 => ?_) (fun h50 => ?_)
        · refine a_aload (kX5_copy.at 32 rfl) 6 rfl ?_
          refine a_getI (x := M (10 + s) 1) (kX5_copy.at 33 rfl) fg_X5_98 (iI_W1 hs) (rfl) ?_
          refine a_aload (kX5_copy.at 34 rfl) 7 rfl ?_
          refine a_getI (x := M (10 + s2) 1) (kX5_copy.at 35 rfl) fg_X5_98 (iI_W1 hs2) (rfl) ?_
          refine a_icmpeq (tgt := 78) (kX5_copy.at 36 rfl) (by decide) (fun h69 => ?_) (fun h69 => ?_)
          · refine a_aload (kX5_copy.at 41 rfl) 6 rfl ?_
            refine a_iload_n (kX5_copy.at 42 rfl) 2 rfl ?_
            refine a_iload (kX5_copy.at 43 rfl) 5 rfl ?_
            refine AW.callV (as := [vI i, vI n]) (st := []) (kX5_copy.at 44 rfl) ml_X5_241 sv_X2_hasStretch (k := (10 + s)) (iO_W hs) rfl rfl ⟨Nat.le_of_ble_eq_true rfl, Nat.le_of_ble_eq_true rfl⟩ ⟨Nat.le_refl _, Nat.le_refl _⟩ rfl rfl (Nat.le_of_ble_eq_true rfl) (k_hasStretch G M s i n hs (by omega)) (kIE ?_)
            refine a_ifeqB (tgt := 101) (kX5_copy.at 45 rfl) (by decide) (fun h86 => ?_) (fun h86 => ?_)
            · refine a_aload_n (kX5_copy.at 51 rfl) 0 rfl ?_
              refine a_iconst (kX5_copy.at 52 rfl) rfl ?_
              refine AW.callV (as := [vI 2]) (st := []) (kX5_copy.at 53 rfl) ml_X5_101 sv_X5_found (k := 0) (io_0) rfl rfl ⟨Nat.le_of_ble_eq_true rfl, Nat.le_of_ble_eq_true rfl⟩ ⟨Nat.le_refl _, Nat.le_refl _⟩ rfl rfl (Nat.le_of_ble_eq_true rfl) (k_found G M 2 (by omega)) (kIE ?_)
              exact a_iret (kX5_copy.at 54 rfl) (by unfold o_copy; first | (rw [if_neg (by omega)]; exact ⟨rfl, hC, fun _ _ _ => rfl⟩) | (rw [if_pos (by omega), if_pos (by omega)]; exact ⟨rfl, Cp_found hC h 1, Fz_found M 1⟩) | (rw [if_pos (by omega), if_neg (by omega), if_neg (by omega)]; exact ⟨rfl, Cp_found hC h 4, Fz_found M 4⟩) | (rw [if_pos (by omega), if_neg (by omega), if_pos (by omega), if_neg (by omega)]; exact ⟨rfl, Cp_found hC h 2, Fz_found M 2⟩) | (rw [if_pos (by omega), if_neg (by omega), if_pos (by omega), if_pos (by omega)]; exact ⟨rfl, hcp⟩))
            · refine a_aload (kX5_copy.at 46 rfl) 7 rfl ?_
              refine a_iload (kX5_copy.at 47 rfl) 4 rfl ?_
              refine a_iload (kX5_copy.at 48 rfl) 5 rfl ?_
              refine AW.callV (as := [vI j, vI n]) (st := []) (kX5_copy.at 49 rfl) ml_X5_241 sv_X2_hasStretch (k := (10 + s2)) (iO_W hs2) rfl rfl ⟨Nat.le_of_ble_eq_true rfl, Nat.le_of_ble_eq_true rfl⟩ ⟨Nat.le_refl _, Nat.le_refl _⟩ rfl rfl (Nat.le_of_ble_eq_true rfl) (k_hasStretch G M s2 j n hs2 (by omega)) (kIE ?_)
              refine a_ifneB (tgt := 107) (kX5_copy.at 50 rfl) (by decide) (fun h98 => ?_) (fun h98 => ?_)
              · refine a_aload (kX5_copy.at 55 rfl) 6 rfl ?_
                refine a_getR (kX5_copy.at 56 rfl) fg_X5_108 (iR_W0 hs) ?_
                refine a_iload_n (kX5_copy.at 57 rfl) 2 rfl ?_
                refine a_aload (kX5_copy.at 58 rfl) 7 rfl ?_
                refine a_getR (kX5_copy.at 59 rfl) fg_X5_108 (iR_W0 hs2) ?_
                refine a_iload (kX5_copy.at 60 rfl) 4 rfl ?_
                refine a_iload (kX5_copy.at 61 rfl) 5 rfl ?_
                refine a_arraycopy (kX5_copy.at 62 rfl) ml_X5_244 ⟨Nat.le_of_ble_eq_true rfl, (show catS [] + (nativeFrameWords "java/lang/System" "arraycopy" 5 + 11) ≤ 40 * 1 from by decide +kernel)⟩ (iA_W hs) (iA_W hs2) (by omega) (by omega) (by omega) (by omega) (by omega) ?_
                have hcp := copy_cp (a := a) (i := i) (b := b) (j := j) (n := n) hC h hs hs2 es es2 (by omega) (by omega)
                refine a_iconst (kX5_copy.at 63 rfl) rfl ?_
                exact a_iret (kX5_copy.at 64 rfl) (by unfold o_copy; first | (rw [if_neg (by omega)]; exact ⟨rfl, hC, fun _ _ _ => rfl⟩) | (rw [if_pos (by omega), if_pos (by omega)]; exact ⟨rfl, Cp_found hC h 1, Fz_found M 1⟩) | (rw [if_pos (by omega), if_neg (by omega), if_neg (by omega)]; exact ⟨rfl, Cp_found hC h 4, Fz_found M 4⟩) | (rw [if_pos (by omega), if_neg (by omega), if_pos (by omega), if_neg (by omega)]; exact ⟨rfl, Cp_found hC h 2, Fz_found M 2⟩) | (rw [if_pos (by omega), if_neg (by omega), if_pos (by omega), if_pos (by omega)]; exact ⟨rfl, hcp⟩))
              · refine a_aload_n (kX5_copy.at 51 rfl) 0 rfl ?_
                refine a_iconst (kX5_copy.at 52 rfl) rfl ?_
                refine AW.callV (as := [vI 2]) (st := []) (kX5_copy.at 53 rfl) ml_X5_101 sv_X5_found (k := 0) (io_0) rfl rfl ⟨Nat.le_of_ble_eq_true rfl, Nat.le_of_ble_eq_true rfl⟩ ⟨Nat.le_refl _, Nat.le_refl _⟩ rfl rfl (Nat.le_of_ble_eq_true rfl) (k_found G M 2 (by omega)) (kIE ?_)
                exact a_iret (kX5_copy.at 54 rfl) (by unfold o_copy; first | (rw [if_neg (by omega)]; exact ⟨rfl, hC, fun _ _ _ => rfl⟩) | (rw [if_pos (by omega), if_pos (by omega)]; exact ⟨rfl, Cp_found hC h 1, Fz_found M 1⟩) | (rw [if_pos (by omega), if_neg (by omega), if_neg (by omega)]; exact ⟨rfl, Cp_found hC h 4, Fz_found M 4⟩) | (rw [if_pos (by omega), if_neg (by omega), if_pos (by omega), if_neg (by omega)]; exact ⟨rfl, Cp_found hC h 2, Fz_found M 2⟩) | (rw [if_pos (by omega), if_neg (by omega), if_pos (by omega), if_pos (by omega)]; exact ⟨rfl, hcp⟩))
          · refine a_aload_n (kX5_copy.at 37 rfl) 0 rfl ?_
            refine a_iconst (kX5_copy.at 38 rfl) rfl ?_
            refine AW.callV (as := [vI 4]) (st := []) (kX5_copy.at 39 rfl) ml_X5_101 sv_X5_found (k := 0) (io_0) rfl rfl ⟨Nat.le_of_ble_eq_true rfl, Nat.le_of_ble_eq_true rfl⟩ ⟨Nat.le_refl _, Nat.le_refl _⟩ rfl rfl (Nat.le_of_ble_eq_true rfl) (k_found G M 4 (by omega)) (kIE ?_)
            exact a_iret (kX5_copy.at 40 rfl) (by unfold o_copy; first | (rw [if_neg (by omega)]; exact ⟨rfl, hC, fun _ _ _ => rfl⟩) | (rw [if_pos (by omega), if_pos (by omega)]; exact ⟨rfl, Cp_found hC h 1, Fz_found M 1⟩) | (rw [if_pos (by omega), if_neg (by omega), if_neg (by omega)]; exact ⟨rfl, Cp_found hC h 4, Fz_found M 4⟩) | (rw [if_pos (by omega), if_neg (by omega), if_pos (by omega), if_neg (by omega)]; exact ⟨rfl, Cp_found hC h 2, Fz_found M 2⟩) | (rw [if_pos (by omega), if_neg (by omega), if_pos (by omega), if_pos (by omega)]; exact ⟨rfl, hcp⟩))
        · refine a_aload_n (kX5_copy.at 28 rfl) 0 rfl ?_
          refine a_iconst (kX5_copy.at 29 rfl) rfl ?_
          refine AW.callV (as := [vI 1]) (st := []) (kX5_copy.at 30 rfl) ml_X5_101 sv_X5_found (k := 0) (io_0) rfl rfl ⟨Nat.le_of_ble_eq_true rfl, Nat.le_of_ble_eq_true rfl⟩ ⟨Nat.le_refl _, Nat.le_refl _⟩ rfl rfl (Nat.le_of_ble_eq_true rfl) (k_found G M 1 (by omega)) (kIE ?_)
          exact a_iret (kX5_copy.at 31 rfl) (by unfold o_copy; first | (rw [if_neg (by omega)]; exact ⟨rfl, hC, fun _ _ _ => rfl⟩) | (rw [if_pos (by omega), if_pos (by omega)]; exact ⟨rfl, Cp_found hC h 1, Fz_found M 1⟩) | (rw [if_pos (by omega), if_neg (by omega), if_neg (by omega)]; exact ⟨rfl, Cp_found hC h 4, Fz_found M 4⟩) | (rw [if_pos (by omega), if_neg (by omega), if_pos (by omega), if_neg (by omega)]; exact ⟨rfl, Cp_found hC h 2, Fz_found M 2⟩) | (rw [if_pos (by omega), if_neg (by omega), if_pos (by omega), if_pos (by omega)]; exact ⟨rfl, hcp⟩))
    · refine a_bipush (kX5_copy.at 8 rfl) rfl rfl ?_
      exact a_iret (kX5_copy.at 9 rfl) (by unfold o_copy; first | (rw [if_neg (by omega)]; exact ⟨rfl, hC, fun _ _ _ => rfl⟩) | (rw [if_pos (by omega), if_pos (by omega)]; exact ⟨rfl, Cp_found hC h 1, Fz_found M 1⟩) | (rw [if_pos (by omega), if_neg (by omega), if_neg (by omega)]; exact ⟨rfl, Cp_found hC h 4, Fz_found M 4⟩) | (rw [if_pos (by omega), if_neg (by omega), if_pos (by omega), if_neg (by omega)]; exact ⟨rfl, Cp_found hC h 2, Fz_found M 2⟩) | (rw [if_pos (by omega), if_neg (by omega), if_pos (by omega), if_pos (by omega)]; exact ⟨rfl, hcp⟩))
noncomputable def wkF (K : Mem) (s : Nat) (f k : Int) : Int → Mem → Mem := fun q N => upm N (40 + s) q (cut f (K 56 (8 * q + k)))
theorem wk_all (M K : Mem) (s : Nat) (f k : Int) {n : Int} (hn : 0 ≤ n) : (∀ c : Nat, c ≠ 40 + s → forR 0 n (wkF K s f k) M c = M c) ∧ ∀ x, forR 0 n (wkF K s f k) M (40 + s) x = if 0 ≤ x ∧ x < n then cut f (K 56 (8 * x + k)) else M (40 + s) x := by
  refine forR_inv (lo := 0) (hi := n) (f := wkF K s f k) (a := M) (fun m L => (∀ c : Nat, c ≠ 40 + s → L c = M c) ∧ ∀ x, L (40 + s) x = if 0 ≤ x ∧ x < m then cut f (K 56 (8 * x + k)) else M (40 + s) x) hn ⟨fun _ _ => rfl, fun x => by rw [if_neg (by omega)]⟩ (fun m L a b hL => ?_)
  unfold wkF
  refine ⟨fun c hc => by rw [upm_ne hc]; exact hL.1 c hc, fun x => ?_⟩
  by_cases e : x = m
  · rw [e, rd_eq, if_pos (by omega)]
  · rw [rd_ni e, hL.2 x]
    by_cases e2 : 0 ≤ x ∧ x < m
    · rw [if_pos e2, if_pos (by omega)]
    · rw [if_neg e2, if_neg (by omega)]
theorem wr_all (K : Mem) (s k : Int) {n : Int} (hn : 0 ≤ n) : (∀ c : Nat, c ≠ 47 → forR 0 n (wrF s k) K c = K c) ∧ ∀ x, forR 0 n (wrF s k) K 47 x = if 60 * s ≤ x ∧ x < 60 * s + n then cut (K 45 s) (K 56 (8 * (x - 60 * s) + k)) else K 47 x := by
  refine forR_inv (lo := 0) (hi := n) (f := wrF s k) (a := K) (fun m L => (∀ c : Nat, c ≠ 47 → L c = K c) ∧ ∀ x, L 47 x = if 60 * s ≤ x ∧ x < 60 * s + m then cut (K 45 s) (K 56 (8 * (x - 60 * s) + k)) else K 47 x) hn ⟨fun _ _ => rfl, fun x => by rw [if_neg (by omega)]⟩ (fun m L a b hL => ?_)
  unfold wrF
  refine ⟨fun c hc => by rw [upm_ne hc]; exact hL.1 c hc, fun x => ?_⟩
  by_cases e : x = 60 * s + m
  · rw [e, rd_eq, if_pos (by omega), hL.1 45 (by omega), hL.1 56 (by omega), show 60 * s + m - 60 * s = m by omega]
  · rw [rd_ni e, hL.2 x]
    by_cases e2 : 60 * s ≤ x ∧ x < 60 * s + m
    · rw [if_pos e2, if_pos (by omega)]
    · rw [if_neg e2, if_neg (by omega)]
set_option maxHeartbeats 4000000 in
set_option maxRecDepth 100000 in
theorem l_kwrite (G : GT) (M K : Mem) (s : Nat) (k a n f : Int) (P : Option AV → Mem → Prop) (hs : s < 4) (hf : M (10 + s) 1 = f) (hp8 : K 44 7 ≤ 8) (hT : TR M 0 K 16) (hk : 0 ≤ k ∧ k < K 44 7) (hn : 0 ≤ n ∧ n ≤ 16) (hlohi : (0 : Int) ≤ n) (kk : (∀ (c : Nat), c ≠ 40 + s → (forR 0 n (wkF K s f k) M) c = M c) → AW G RX5 cX5_write 6 (some .int) (XM G 2 P) 83 [(0, vR 0), (1, vI k), (2, vI a), (3, vR (10 + s)), (4, vI n), (5, vI n)] [] (forR 0 n (wkF K s f k) M)) : AW G RX5 cX5_write 6 (some .int) (XM G 2 P) 54 [(0, vR 0), (1, vI k), (2, vI a), (3, vR (10 + s)), (4, vI n), (5, vI 0)] [] M := by
  have key : ∀ (nn : Nat) (q : Int) (N : Mem), (0 : Int) ≤ q → q ≤ n → N = forR 0 q (wkF K s f k) M → (∀ (c : Nat), c ≠ 40 + s → N c = M c) → n - q < nn → AW G RX5 cX5_write 6 (some .int) (XM G 2 P) 54 [(0, vR 0), (1, vI k), (2, vI a), (3, vR (10 + s)), (4, vI n), (5, vI q)] [] N := by
    intro nn
    induction nn with
    | zero => intro q N hk0 hk1 e_N hF hn; omega
    | succ nn ih =>
      intro q N hk0 hk1 e_N hF hn
      refine a_iload (kX5_write.at 30 rfl) 5 rfl ?_
      refine a_iload (kX5_write.at 31 rfl) 4 rfl ?_
      refine a_icmpge (tgt := 83) (kX5_write.at 32 rfl) (by decide) (fun h58 => ?_) (fun h58 => ?_)
      · subst e_N
        obtain rfl : q = n := by omega
        exact kk hF
      · refine a_aload_n (kX5_write.at 33 rfl) 3 rfl ?_
        refine a_iload (kX5_write.at 34 rfl) 5 rfl ?_
        refine a_aload_n (kX5_write.at 35 rfl) 0 rfl ?_
        refine a_getR (kX5_write.at 36 rfl) fg_X5_29 ir_0_3 ?_
        refine a_iload (kX5_write.at 37 rfl) 5 rfl ?_
        refine a_iload_n (kX5_write.at 38 rfl) 1 rfl ?_
        refine AW.callV (as := [vI q, vI k]) (st := [vI q, vR (10 + s)]) (kX5_write.at 39 rfl) ml_X5_111 sv_X1_homeBehind (k := 4) (io_4) rfl rfl ⟨Nat.le_of_ble_eq_true rfl, Nat.le_of_ble_eq_true rfl⟩ ⟨Nat.le_refl _, Nat.le_refl _⟩ rfl rfl (Nat.le_of_ble_eq_true rfl) (k_homeBehind G N K 0 q k (by omega) (hT.ext fun x => by rw [hF _ (by omega)]) hp8 (by omega) hk) (kIE ?_)
        refine AW.callV (as := [vI q, vI (K 56 (8 * q + k))]) (st := []) (kX5_write.at 40 rfl) ml_X5_234 sv_X2_put (k := (10 + s)) (iO_W hs) rfl rfl ⟨Nat.le_of_ble_eq_true rfl, Nat.le_of_ble_eq_true rfl⟩ ⟨Nat.le_refl _, Nat.le_refl _⟩ rfl rfl (Nat.le_of_ble_eq_true rfl) (k_put G N s q (K 56 (8 * q + k)) hs (by omega)) (kVE ?_)
        refine a_iinc (ls' := [(0, vR 0), (1, vI k), (2, vI a), (3, vR (10 + s)), (4, vI n), (5, vI (q + 1))]) (kX5_write.at 41 rfl) 5 rfl (by decide) (inr (by omega)) rfl ?_
        refine a_goto (tgt := 54) (kX5_write.at 42 rfl) (by decide) ?_
        exact ih ((q + 1)) ((upm N (40 + s) q (if N (10 + s) 1 = 0 then iB (K 56 (8 * q + k)) else if N (10 + s) 1 = 1 then iS (K 56 (8 * q + k)) else (K 56 (8 * q + k))))) (by omega) (by omega) (by rw [forR_succ hk0, ← e_N] <;> (clear ih kk e_N; unfold wkF cut; rw [hF (10 + s) (by omega), hf])) (fun c hc => by rw [upm_ne hc]; exact hF c hc) (by omega)
  exact key ((n) - (0) + 1 : Int).toNat (0) M (Int.le_refl _) hlohi (forR_nil (Int.le_refl _)).symm (fun _ _ => rfl) (by omega)
theorem write_cp {M K : Mem} {s : Nat} {k a n : Int} (hC : Cp M K) (h : MB K) (hs : s < 4) (es : a = (s : Int)) (hn : 0 ≤ n ∧ n ≤ 16) (hz : n ≤ K 46 a) (hf : 0 ≤ K 45 a) :
    Cp (forR 0 n (wkF (find K) s (K 45 a) k) M) (forR 0 n (wrF a k) (find K)) ∧ Fz M (forR 0 n (wkF (find K) s (K 45 a) k) M) := by
  have hA := wk_all M (find K) s (K 45 a) k hn.1
  have hB := wr_all (find K) a k hn.1
  have hF := find_Fp h.1
  have z1 := hC.2.2.2.2.1.1 s hs
  have w2 := h.2.2.2 a (by omega) (by omega)
  rw [← es] at z1
  have eN : ∀ (c : Nat) (x : Int), c ≠ 40 + s → forR 0 n (wkF (find K) s (K 45 a) k) M c x = M c x := fun c x u => by rw [hA.1 c u]
  have eK : ∀ (c : Nat) (x : Int), c ≠ 47 → c ≠ 50 → ¬ (52 ≤ c ∧ c ≤ 59) → c ≠ 61 → c ≠ 62 → ¬ (c = 44 ∧ (x = 7 ∨ x = 13 ∨ x = 14 ∨ (23 ≤ x ∧ x ≤ 27) ∨ x = 31)) → forR 0 n (wrF a k) (find K) c x = K c x := fun c x u1 u2 u3 u4 u5 u6 => by rw [hB.1 c u1]; exact hF c x u2 u3 u4 u5 u6
  have e45 : find K 45 a = K 45 a := hF 45 a (by omega) (by omega) (by omega) (by omega) (by omega)
  have e47 : ∀ x, find K 47 x = K 47 x := fun x => hF 47 x (by omega) (by omega) (by omega) (by omega) (by omega)
  refine ⟨hC.sh h (fun c x u => eN c x (by omega)) ⟨⟨?_, ?_, ?_, ?_⟩, fun j => ?_, fun j => ?_⟩ ?_ (CS_row (s := s) hC.2.2.2.2.1 h.2.2.2 hs (eN 0 10 (by omega)) ?_ (fun r x u v => ⟨eN _ _ (by omega), eN _ _ (by omega)⟩) (fun r u v => ⟨?_, ?_, fun i w y => ?_⟩) ⟨?_, ?_, fun y x w v => ?_⟩), fun c x u => eN c x (by omega)⟩
  · exact eK 44 6 (by omega) (by omega) (by omega) (by omega) (by omega) (by omega)
  · exact eK 44 9 (by omega) (by omega) (by omega) (by omega) (by omega) (by omega)
  · exact eK 44 11 (by omega) (by omega) (by omega) (by omega) (by omega) (by omega)
  · exact eK 44 12 (by omega) (by omega) (by omega) (by omega) (by omega) (by omega)
  · exact eK 49 j (by omega) (by omega) (by omega) (by omega) (by omega) (by omega)
  · exact eK 51 j (by omega) (by omega) (by omega) (by omega) (by omega) (by omega)
  · have e28 := eK 44 28 (by omega) (by omega) (by omega) (by omega) (by omega) (by omega)
    have e60 : ∀ j, forR 0 n (wrF a k) (find K) 60 j = K 60 j := fun j => eK 60 j (by omega) (by omega) (by omega) (by omega) (by omega) (by omega)
    refine QK.ext (M := M) ⟨?_, ?_, fun i w y => ?_⟩ (fun c x u => eN c x (by omega))
    · rw [e28]; exact hC.2.2.1.1
    · rw [e28]; exact hC.2.2.1.2.1
    · rw [e28] at y
      rw [e60, e60, e60]; exact hC.2.2.1.2.2 i w y
  · exact eK 44 4 (by omega) (by omega) (by omega) (by omega) (by omega) (by omega)
  · exact eK 45 _ (by omega) (by omega) (by omega) (by omega) (by omega) (by omega)
  · exact eK 46 _ (by omega) (by omega) (by omega) (by omega) (by omega) (by omega)
  · rw [hB.2, if_neg (by omega), e47]
  · rw [eN _ _ (by omega), eK 45 _ (by omega) (by omega) (by omega) (by omega) (by omega) (by omega), ← es]; exact z1.1
  · rw [eN _ _ (by omega), eK 46 _ (by omega) (by omega) (by omega) (by omega) (by omega) (by omega), ← es]; exact z1.2.1
  · rw [eK 46 _ (by omega) (by omega) (by omega) (by omega) (by omega) (by omega), ← es] at v
    rw [hA.2, hB.2, ← es]
    by_cases e : 0 ≤ x ∧ x < n
    · rw [if_pos e, if_pos (by omega), e45, show 60 * a + x - 60 * a = x by omega]
    · rw [if_neg e, if_neg (by omega), e47]
      exact z1.2.2 hf x w v
theorem k_write (G : GT) (M K : Mem) (k a : Int) (hC : Cp M K) (h : MB K) : AM G yX5_write cX5_write 6 (some .int) 2 M [vR 0, vI k, vI a] (pI fun r N => r = (o_write K k a).1 ∧ Cp N (o_write K k a).2 ∧ Fz M N) := by
  refine AM.mk (own := RX5) rfl sv_X5_write.1.2.2.2.2.2 (Nat.le_of_ble_eq_true rfl) rfl ?_
  have hI := CI_of hC h
  have ef := find_p K
  have hp := hI.1.1
  have e5 := hC.2.1.2.1
  have hF := find_Fp h.1
  have e45 : find K 45 a = K 45 a := hF 45 a (by omega) (by omega) (by omega) (by omega) (by omega)
  have e46 : find K 46 a = K 46 a := hF 46 a (by omega) (by omega) (by omega) (by omega) (by omega)
  have hcF : Cp M (find K) := hC.F h (fun _ _ _ => rfl) hF.tf
  refine a_aload_n (kX5_write.at 0 rfl) 0 rfl ?_
  refine a_iload_n (kX5_write.at 1 rfl) 1 rfl ?_
  refine AW.callV (as := [vI k]) (st := []) (kX5_write.at 2 rfl) ml_X5_70 sv_X5_isPerson (k := 0) (io_0) rfl rfl ⟨Nat.le_of_ble_eq_true rfl, Nat.le_of_ble_eq_true rfl⟩ ⟨Nat.le_refl _, Nat.le_refl _⟩ rfl rfl (Nat.le_of_ble_eq_true rfl) (k_isPerson G M k) (kIE ?_)
  refine a_ifeqB (tgt := 16) (kX5_write.at 3 rfl) (by decide) (fun h5 => ?_) (fun h5 => ?_)
  · refine a_bipush (kX5_write.at 8 rfl) rfl rfl ?_
    exact a_iret (kX5_write.at 9 rfl) (by unfold o_write; first | (rw [if_neg (by omega)]; exact ⟨rfl, hcF, fun _ _ _ => rfl⟩) | (rw [if_pos (by omega), if_pos (by omega)]; exact ⟨rfl, Cp_found hcF (hF.MB h) 1, Fz_found M 1⟩) | (rw [if_pos (by omega), if_neg (by omega)]; exact ⟨hmin.1, by rw [← hmin.1]; exact hcp.1, hcp.2⟩))
  · refine a_iload_n (kX5_write.at 4 rfl) 2 rfl ?_
    refine a_iconst (kX5_write.at 5 rfl) rfl ?_
    refine AW.callS (as := [vI a, vI 4]) (st := []) (kX5_write.at 6 rfl) ml_X5_74 ss_X5_isBelow ⟨Nat.le_of_ble_eq_true rfl, Nat.le_of_ble_eq_true rfl⟩ ⟨Nat.le_refl _, Nat.le_refl _⟩ rfl rfl (Nat.le_of_ble_eq_true rfl) (k_isBelow G M a 4) (kIE ?_)
    refine a_ifneB (tgt := 19) (kX5_write.at 7 rfl) (by decide) (fun h13 => ?_) (fun h13 => ?_)
    · refine a_aload_n (kX5_write.at 10 rfl) 0 rfl ?_
      refine a_getR (kX5_write.at 11 rfl) fg_X5_45 ir_0_6 ?_
      obtain ⟨s, es⟩ := nat_of (x := a) (by omega)
      have hs : s < 4 := by omega
      have hz := hC.2.2.2.2.1.1 s hs
      rw [← es] at hz
      have hi := h.2.2.2 a (by omega) (by omega)
      refine a_iload_n (kX5_write.at 12 rfl) 2 rfl ?_
      refine a_aald (j := 10 + s) (kX5_write.at 13 rfl) (rs := [10, 11, 12, 13]) rfl (by omega) (row_at (by omega) (by omega)) ?_
      refine a_astore_n (ls' := [(0, vR 0), (1, vI k), (2, vI a), (3, vR (10 + s))]) (kX5_write.at 14 rfl) (by decide) rfl ?_
      refine a_aload_n (kX5_write.at 15 rfl) 3 rfl ?_
      refine a_getI (x := M (10 + s) 1) (kX5_write.at 16 rfl) fg_X5_98 (iI_W1 hs) (rfl) ?_
      refine a_iconst (kX5_write.at 17 rfl) rfl ?_
      refine a_icmpne (tgt := 40) (kX5_write.at 18 rfl) (by decide) (fun h31 => ?_) (fun h31 => ?_)
      · refine a_aload_n (kX5_write.at 23 rfl) 3 rfl ?_
        refine a_getI (x := M (10 + s) 2) (kX5_write.at 24 rfl) fg_X5_105 (iI_W2 hs) (rfl) ?_
        refine a_bipush (kX5_write.at 25 rfl) rfl rfl ?_
        refine a_min (kX5_write.at 26 rfl) ml_X5_250 ⟨Nat.le_of_ble_eq_true rfl, Nat.le_of_ble_eq_true rfl⟩ ⟨Nat.le_refl _, Nat.le_refl _⟩ ?_
        have hmin : minI (M (10 + s) 2) 16 = lesser (find K 46 a) 16 ∧ 0 ≤ minI (M (10 + s) 2) 16 ∧ minI (M (10 + s) 2) 16 ≤ 16 ∧ minI (M (10 + s) 2) 16 ≤ K 46 a := by
          unfold minI lesser
          rw [e46, hz.2.1]
          refine ⟨?_, ?_, ?_, ?_⟩ <;> (repeat' split) <;> omega
        have hcp := write_cp (k := k) (a := a) (n := minI (M (10 + s) 2) 16) hC h hs es (by omega) (by omega) (by omega)
        refine a_istore (ls' := [(0, vR 0), (1, vI k), (2, vI a), (3, vR (10 + s)), (4, vI (minI (M (10 + s) 2) 16))]) (kX5_write.at 27 rfl) (by decide) rfl ?_
        refine a_iconst (kX5_write.at 28 rfl) rfl ?_
        refine a_istore (ls' := [(0, vR 0), (1, vI k), (2, vI a), (3, vR (10 + s)), (4, vI (minI (M (10 + s) 2) 16)), (5, vI 0)]) (kX5_write.at 29 rfl) (by decide) rfl ?_
        refine l_kwrite G M (find K) s k a _ (K 45 a) _ hs hz.1 (by omega) hC.2.2.2.1.2 (by omega) (by omega) (by omega) ?_
        intro hF1
        show AW _ _ _ _ _ _ 83 [(0, vR 0), (1, vI k), (2, vI a), (3, vR (10 + s)), (4, vI (minI (M (10 + s) 2) 16)), (5, vI (minI (M (10 + s) 2) 16))] [] (forR 0 (minI (M (10 + s) 2) 16) (wkF (find K) s (K 45 a) k) M)
        refine a_iload (kX5_write.at 43 rfl) 4 rfl ?_
        exact a_iret (kX5_write.at 44 rfl) (by unfold o_write; first | (rw [if_neg (by omega)]; exact ⟨rfl, hcF, fun _ _ _ => rfl⟩) | (rw [if_pos (by omega), if_pos (by omega)]; exact ⟨rfl, Cp_found hcF (hF.MB h) 1, Fz_found M 1⟩) | (rw [if_pos (by omega), if_neg (by omega)]; exact ⟨hmin.1, by rw [← hmin.1]; exact hcp.1, hcp.2⟩))
      · refine a_aload_n (kX5_write.at 19 rfl) 0 rfl ?_
        refine a_iconst (kX5_write.at 20 rfl) rfl ?_
        refine AW.callV (as := [vI 1]) (st := []) (kX5_write.at 21 rfl) ml_X5_101 sv_X5_found (k := 0) (io_0) rfl rfl ⟨Nat.le_of_ble_eq_true rfl, Nat.le_of_ble_eq_true rfl⟩ ⟨Nat.le_refl _, Nat.le_refl _⟩ rfl rfl (Nat.le_of_ble_eq_true rfl) (k_found G M 1 (by omega)) (kIE ?_)
        exact a_iret (kX5_write.at 22 rfl) (by unfold o_write; first | (rw [if_neg (by omega)]; exact ⟨rfl, hcF, fun _ _ _ => rfl⟩) | (rw [if_pos (by omega), if_pos (by omega)]; exact ⟨rfl, Cp_found hcF (hF.MB h) 1, Fz_found M 1⟩) | (rw [if_pos (by omega), if_neg (by omega)]; exact ⟨hmin.1, by rw [← hmin.1]; exact hcp.1, hcp.2⟩))
    · refine a_bipush (kX5_write.at 8 rfl) rfl rfl ?_
      exact a_iret (kX5_write.at 9 rfl) (by unfold o_write; first | (rw [if_neg (by omega)]; exact ⟨rfl, hcF, fun _ _ _ => rfl⟩) | (rw [if_pos (by omega), if_pos (by omega)]; exact ⟨rfl, Cp_found hcF (hF.MB h) 1, Fz_found M 1⟩) | (rw [if_pos (by omega), if_neg (by omega)]; exact ⟨hmin.1, by rw [← hmin.1]; exact hcp.1, hcp.2⟩))
noncomputable def apS (M : Mem) (a b c : Int) : Mem := upm (upm (upm (upm M 21 (M 3 3) a) 22 (M 3 3) b) 23 (M 3 3) c) 3 3 (M 3 3 + 1)
theorem k_appendS (G : GT) (M : Mem) (a b c : Int) (hn : 0 ≤ M 3 3 ∧ M 3 3 < 8) : AM G yX4_append cX4_append 4 none 0 M [vR 3, vI a, vI b, vI c] (qV (apS M a b c)) := k_append G M 1 a b c (by omega) hn
theorem apS_f (M : Mem) (a b c : Int) (k : Nat) (x : Int) (h : k ≠ 3) (h1 : ¬ (21 ≤ k ∧ k ≤ 23)) : apS M a b c k x = M k x := by
  unfold apS
  rw [rd_ne h, rd_ne (by omega), rd_ne (by omega), rd_ne (by omega)]
noncomputable def snK (K : Mem) (q k h : Int) : Mem := upm (upm (upm (upm K 60 (3 * K 44 28) q) 60 (3 * K 44 28 + 1) k) 60 (3 * K 44 28 + 2) h) 44 28 (K 44 28 + 1)
theorem QK_seen {M K : Mem} (h : QK M K) {a b c : Int} (ha : 0 ≤ a ∧ a ≤ 15) (hb : 0 ≤ b ∧ b ≤ 7) (h7 : K 44 28 ≤ 7) : QK (apS M a b c) (snK K a b c) := by
  obtain ⟨h1, h2, h3⟩ := h
  refine ⟨(show M 3 3 + 1 = K 44 28 + 1 by omega), (show 0 ≤ K 44 28 + 1 ∧ K 44 28 + 1 ≤ 8 by omega), fun i d e => ?_⟩
  have e' : i < K 44 28 + 1 := e
  show (ups (M 21) (M 3 3) a i = ups (ups (ups (K 60) (3 * K 44 28) a) (3 * K 44 28 + 1) b) (3 * K 44 28 + 2) c (3 * i) ∧ ups (M 22) (M 3 3) b i = ups (ups (ups (K 60) (3 * K 44 28) a) (3 * K 44 28 + 1) b) (3 * K 44 28 + 2) c (3 * i + 1) ∧ ups (M 23) (M 3 3) c i = ups (ups (ups (K 60) (3 * K 44 28) a) (3 * K 44 28 + 1) b) (3 * K 44 28 + 2) c (3 * i + 2)) ∧ (0 ≤ ups (ups (ups (K 60) (3 * K 44 28) a) (3 * K 44 28 + 1) b) (3 * K 44 28 + 2) c (3 * i) ∧ ups (ups (ups (K 60) (3 * K 44 28) a) (3 * K 44 28 + 1) b) (3 * K 44 28 + 2) c (3 * i) ≤ 15) ∧ (0 ≤ ups (ups (ups (K 60) (3 * K 44 28) a) (3 * K 44 28 + 1) b) (3 * K 44 28 + 2) c (3 * i + 1) ∧ ups (ups (ups (K 60) (3 * K 44 28) a) (3 * K 44 28 + 1) b) (3 * K 44 28 + 2) c (3 * i + 1) ≤ 7)
  unfold ups
  by_cases ei : i = M 3 3
  · rw [if_pos ei, if_pos ei, if_pos ei, if_neg (show ¬ 3 * i = 3 * K 44 28 + 2 by omega), if_neg (show ¬ 3 * i = 3 * K 44 28 + 1 by omega), if_pos (show 3 * i = 3 * K 44 28 by omega), if_neg (show ¬ 3 * i + 1 = 3 * K 44 28 + 2 by omega), if_pos (show 3 * i + 1 = 3 * K 44 28 + 1 by omega), if_pos (show 3 * i + 2 = 3 * K 44 28 + 2 by omega)]
    exact ⟨⟨rfl, rfl, rfl⟩, ha, hb⟩
  · rw [if_neg ei, if_neg ei, if_neg ei, if_neg (show ¬ 3 * i = 3 * K 44 28 + 2 by omega), if_neg (show ¬ 3 * i = 3 * K 44 28 + 1 by omega), if_neg (show ¬ 3 * i = 3 * K 44 28 by omega), if_neg (show ¬ 3 * i + 1 = 3 * K 44 28 + 2 by omega), if_neg (show ¬ 3 * i + 1 = 3 * K 44 28 + 1 by omega), if_neg (show ¬ 3 * i + 1 = 3 * K 44 28 by omega), if_neg (show ¬ 3 * i + 2 = 3 * K 44 28 + 2 by omega), if_neg (show ¬ 3 * i + 2 = 3 * K 44 28 + 1 by omega), if_neg (show ¬ 3 * i + 2 = 3 * K 44 28 by omega)]
    exact h3 i d (by omega)
theorem k_seen (G : GT) (M K : Mem) (a b c : Int) (hC : Cp M K) (h : MB K) : AM G yX5_seen cX5_seen 4 (some .int) 1 M [vR 0, vI a, vI b, vI c] (pI fun r N => r = (o_seen K a b c).1 ∧ Cp N (o_seen K a b c).2 ∧ Fz M N) := by
  refine AM.mk (own := RX5) rfl sv_X5_seen.1.2.2.2.2.2 (Nat.le_of_ble_eq_true rfl) rfl ?_
  have e28 := hC.2.2.1.1
  have h28 := hC.2.2.1.2.1
  refine a_iload_n (kX5_seen.at 0 rfl) 1 rfl ?_
  refine a_bipush (kX5_seen.at 1 rfl) rfl rfl ?_
  refine AW.callS (as := [vI a, vI 16]) (st := []) (kX5_seen.at 2 rfl) ml_X5_74 ss_X5_isBelow ⟨Nat.le_of_ble_eq_true rfl, Nat.le_of_ble_eq_true rfl⟩ ⟨Nat.le_refl _, Nat.le_refl _⟩ rfl rfl (Nat.le_of_ble_eq_true rfl) (k_isBelow G M a 16) (kIE ?_)
  refine a_ifeqB (tgt := 27) (kX5_seen.at 3 rfl) (by decide) (fun h6 => ?_) (fun h6 => ?_)
  · refine a_bipush (kX5_seen.at 12 rfl) rfl rfl ?_
    exact a_iret (kX5_seen.at 13 rfl) (by unfold o_seen; first | (rw [if_neg (by omega)]; exact ⟨rfl, hC, fun _ _ _ => rfl⟩) | (rw [if_pos (by omega), if_pos (by omega)]; exact ⟨rfl, hC, fun _ _ _ => rfl⟩) | (rw [if_pos (by omega), if_neg (by omega)]; exact ⟨e1, hc1, fun k x z => apS_f M a b c k x (by omega) (by omega)⟩))
  · refine a_iload_n (kX5_seen.at 4 rfl) 2 rfl ?_
    refine a_bipush (kX5_seen.at 5 rfl) rfl rfl ?_
    refine AW.callS (as := [vI b, vI 8]) (st := []) (kX5_seen.at 6 rfl) ml_X5_74 ss_X5_isBelow ⟨Nat.le_of_ble_eq_true rfl, Nat.le_of_ble_eq_true rfl⟩ ⟨Nat.le_refl _, Nat.le_refl _⟩ rfl rfl (Nat.le_of_ble_eq_true rfl) (k_isBelow G M b 8) (kIE ?_)
    refine a_ifeqB (tgt := 27) (kX5_seen.at 7 rfl) (by decide) (fun h15 => ?_) (fun h15 => ?_)
    · refine a_bipush (kX5_seen.at 12 rfl) rfl rfl ?_
      exact a_iret (kX5_seen.at 13 rfl) (by unfold o_seen; first | (rw [if_neg (by omega)]; exact ⟨rfl, hC, fun _ _ _ => rfl⟩) | (rw [if_pos (by omega), if_pos (by omega)]; exact ⟨rfl, hC, fun _ _ _ => rfl⟩) | (rw [if_pos (by omega), if_neg (by omega)]; exact ⟨e1, hc1, fun k x z => apS_f M a b c k x (by omega) (by omega)⟩))
    · refine a_iload_n (kX5_seen.at 8 rfl) 3 rfl ?_
      refine a_bipush (kX5_seen.at 9 rfl) rfl rfl ?_
      refine AW.callS (as := [vI c, vI 10]) (st := []) (kX5_seen.at 10 rfl) ml_X5_74 ss_X5_isBelow ⟨Nat.le_of_ble_eq_true rfl, Nat.le_of_ble_eq_true rfl⟩ ⟨Nat.le_refl _, Nat.le_refl _⟩ rfl rfl (Nat.le_of_ble_eq_true rfl) (k_isBelow G M c 10) (kIE ?_)
      refine a_ifneB (tgt := 30) (kX5_seen.at 11 rfl) (by decide) (fun h24 => ?_) (fun h24 => ?_)
      · refine a_aload_n (kX5_seen.at 14 rfl) 0 rfl ?_
        refine a_getR (kX5_seen.at 15 rfl) fg_X5_23 ir_0_2 ?_
        refine a_getI (x := M 3 3) (kX5_seen.at 16 rfl) fg_X5_91 ii_3_3 (rfl) ?_
        refine a_bipush (kX5_seen.at 17 rfl) rfl rfl ?_
        refine a_icmplt (tgt := 45) (kX5_seen.at 18 rfl) (by decide) (fun h39 => ?_) (fun h39 => ?_)
        · refine a_aload_n (kX5_seen.at 21 rfl) 0 rfl ?_
          refine a_getR (kX5_seen.at 22 rfl) fg_X5_23 ir_0_2 ?_
          refine a_iload_n (kX5_seen.at 23 rfl) 1 rfl ?_
          refine a_iload_n (kX5_seen.at 24 rfl) 2 rfl ?_
          refine a_iload_n (kX5_seen.at 25 rfl) 3 rfl ?_
          refine AW.callV (as := [vI a, vI b, vI c]) (st := []) (kX5_seen.at 26 rfl) ml_X5_94 sv_X4_append (k := 3) (io_3) rfl rfl ⟨Nat.le_of_ble_eq_true rfl, Nat.le_of_ble_eq_true rfl⟩ ⟨Nat.le_refl _, Nat.le_refl _⟩ rfl rfl (Nat.le_of_ble_eq_true rfl) (k_appendS G M a b c (by omega)) (kVE ?_)
          have hc1 : Cp (apS M a b c) (snK K a b c) := hC.sh h (fun k x z => apS_f M a b c k x (by omega) (by omega)) ⟨⟨rfl, rfl, rfl, rfl⟩, fun _ => rfl, fun _ => rfl⟩ (QK_seen hC.2.2.1 (by omega) (by omega) (by omega)) ((show CS M (snK K a b c) from hC.2.2.2.2.1).ext (fun k x z => apS_f M a b c k x (by omega) (by omega)))
          have e1 : apS M a b c 3 3 = K 44 28 + 1 := by show M 3 3 + 1 = K 44 28 + 1; omega
          refine a_aload_n (kX5_seen.at 27 rfl) 0 rfl ?_
          refine a_getR (kX5_seen.at 28 rfl) fg_X5_23 ir_0_2 ?_
          refine a_getI (x := (apS M a b c) 3 3) (kX5_seen.at 29 rfl) fg_X5_91 ii_3_3 (rfl) ?_
          exact a_iret (kX5_seen.at 30 rfl) (by unfold o_seen; first | (rw [if_neg (by omega)]; exact ⟨rfl, hC, fun _ _ _ => rfl⟩) | (rw [if_pos (by omega), if_pos (by omega)]; exact ⟨rfl, hC, fun _ _ _ => rfl⟩) | (rw [if_pos (by omega), if_neg (by omega)]; exact ⟨e1, hc1, fun k x z => apS_f M a b c k x (by omega) (by omega)⟩))
        · refine a_bipush (kX5_seen.at 19 rfl) rfl rfl ?_
          exact a_iret (kX5_seen.at 20 rfl) (by unfold o_seen; first | (rw [if_neg (by omega)]; exact ⟨rfl, hC, fun _ _ _ => rfl⟩) | (rw [if_pos (by omega), if_pos (by omega)]; exact ⟨rfl, hC, fun _ _ _ => rfl⟩) | (rw [if_pos (by omega), if_neg (by omega)]; exact ⟨e1, hc1, fun k x z => apS_f M a b c k x (by omega) (by omega)⟩))
      · refine a_bipush (kX5_seen.at 12 rfl) rfl rfl ?_
        exact a_iret (kX5_seen.at 13 rfl) (by unfold o_seen; first | (rw [if_neg (by omega)]; exact ⟨rfl, hC, fun _ _ _ => rfl⟩) | (rw [if_pos (by omega), if_pos (by omega)]; exact ⟨rfl, hC, fun _ _ _ => rfl⟩) | (rw [if_pos (by omega), if_neg (by omega)]; exact ⟨e1, hc1, fun k x z => apS_f M a b c k x (by omega) (by omega)⟩))
theorem k_forget (G : GT) (M K : Mem) (hC : Cp M K) (h : MB K) : AM G yX5_forget cX5_forget 2 (some .int) 0 M [vR 0] (pI fun r N => r = K 44 28 ∧ Cp N (upm K 44 28 0) ∧ Fz M N) := by
  refine AM.mk (own := RX5) rfl sv_X5_forget.1.2.2.2.2.2 (Nat.le_of_ble_eq_true rfl) rfl ?_
  have e28 := hC.2.2.1.1
  have eN : ∀ (c : Nat) (x : Int), c ≠ 3 → upm M 3 3 0 c x = M c x := fun c x u => rd_ne u
  refine a_aload_n (kX5_forget.at 0 rfl) 0 rfl ?_
  refine a_getR (kX5_forget.at 1 rfl) fg_X5_23 ir_0_2 ?_
  refine a_getI (x := M 3 3) (kX5_forget.at 2 rfl) fg_X5_91 ii_3_3 (rfl) ?_
  refine a_istore_n (ls' := [(0, vR 0), (1, vI (M 3 3))]) (kX5_forget.at 3 rfl) (by decide) rfl ?_
  refine a_aload_n (kX5_forget.at 4 rfl) 0 rfl ?_
  refine a_getR (kX5_forget.at 5 rfl) fg_X5_23 ir_0_2 ?_
  refine a_iconst (kX5_forget.at 6 rfl) rfl ?_
  refine a_putI (j := 3) (kX5_forget.at 7 rfl) fp_X5_91 (ii_3_3) rfl ?_
  refine a_iload_n (kX5_forget.at 8 rfl) 1 rfl ?_
  exact a_iret (kX5_forget.at 9 rfl) (⟨e28, hC.sh h (fun c x u => eN c x (by omega)) ⟨⟨rfl, rfl, rfl, rfl⟩, fun _ => rfl, fun _ => rfl⟩ ⟨rfl, (show (0 : Int) ≤ 0 ∧ (0 : Int) ≤ 8 by omega), fun i u v => (by have v' : i < 0 := v; omega)⟩ ((show CS M (upm K 44 28 0) from hC.2.2.2.2.1).ext fun c x u => eN c x (by omega)), fun c x u => eN c x (by omega)⟩)
