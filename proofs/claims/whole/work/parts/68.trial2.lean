/-! ===== the class: think, rest, never, was ===== -/
theorem k_planT (G : GT) (M : Mem) (kind q p : Int) (hk : 0 ≤ kind ∧ kind ≤ 3) (hq : 0 ≤ q ∧ q ≤ 15) (hp : 0 ≤ p ∧ p ≤ 7) : AM G yX1_plan cX1_plan 4 none 0 M [vR 5, vI kind, vI q, vI p] (qV (upm M 35 q (plS (M 35 q) kind p))) := k_plan G M 1 kind q p (by omega) hk hq hp
theorem EV_th {R : Mem} (h : EV R) {q k v : Int} (hv : 0 ≤ v ∧ v ≤ 3) (hk : v = 3 ∨ (0 ≤ k ∧ k ≤ 7)) : EV (upm (upm (upm R 44 12 q) 44 14 k) 44 13 v) := ⟨h.1, h.2.1, fun _ => ⟨hv, hk⟩⟩
theorem EV_rs {R : Mem} (h : EV R) {q : Int} : EV (upm (upm R 44 13 3) 44 12 q) := ⟨h.1, h.2.1, fun _ => ⟨(show (0 : Int) ≤ 3 ∧ (3 : Int) ≤ 3 by omega), Or.inl rfl⟩⟩
theorem IR_th {R : Mem} (h : IR R) {q k v : Int} : IR (upm (upm (upm R 44 12 q) 44 14 k) 44 13 v) := h
theorem IR_rs {R : Mem} (h : IR R) {q : Int} : IR (upm (upm R 44 13 3) 44 12 q) := h
theorem Fy_35 (N : Mem) (q v : Int) : Fy N (upm N 35 q v) := fun c x a b d e => rd_ne (by omega)
theorem LD_th {N R : Mem} (h : LD N 1 R) (h12 : R 44 12 = -1) (k v : Int) : LD (upm N 35 0 (plS (N 35 0) v k)) 1 (upm (upm (upm R 44 12 0) 44 14 k) 44 13 v) :=
  LD_plan h h12 (Int.le_refl _) rfl rfl (Or.inr rfl) rfl rfl rfl (fun _ => rfl) (fun _ => rfl)
theorem LD_rs {N R : Mem} (h : LD N 1 R) (h12 : R 44 12 = -1) {q : Int} (hq : 0 ≤ q) : LD (upm N 35 q (plS (N 35 q) 3 0)) 1 (upm (upm R 44 13 3) 44 12 q) :=
  LD_plan h h12 hq rd_eq rfl (Or.inl rfl) rfl rfl rfl (fun _ => rfl) (fun _ => rfl)
set_option maxHeartbeats 4000000 in
set_option maxRecDepth 100000 in
theorem l_kthink (G : GT) (M K : Mem) (k w : Int) (P : Option AV → Mem → Prop) (hC : Cp M K) (h : MB K) (hI : CI K) (hk : 0 ≤ k ∧ k < (reads K).1 44 7) (hM : M 6 0 = -1) (hlohi : (0 : Int) ≤ 3) (kk : ∀ (N : Mem), (Fy M N) → (chR N (forR 0 3 (thP (reads K).1 k) (-1, 999)) ((0 : Int) < 3)) → AW G RX5 cX5_think 4 (some .int) (XM G 4 P) 89 [(0, vR 0), (1, vI k), (2, vI w), (3, vI 3)] [] N) : AW G RX5 cX5_think 4 (some .int) (XM G 4 P) 28 [(0, vR 0), (1, vI k), (2, vI w), (3, vI 0)] [] M := by
  have key : ∀ (nn : Nat) (x : Int)  (N : Mem), (0 : Int) ≤ x → x ≤ 3 → (Fy M N) → (chR N (forR 0 x (thP (reads K).1 k) (-1, 999)) ((0 : Int) < x)) → 3 - x < nn → AW G RX5 cX5_think 4 (some .int) (XM G 4 P) 28 [(0, vR 0), (1, vI k), (2, vI w), (3, vI x)] [] N := by
    intro nn
    induction nn with
    | zero => intro x N hk0 hk1  hy hz hn; omega
    | succ nn ih =>
      intro x N hk0 hk1  hy hz hn
      have hCN := hC.y h hy
      have hp8 := hI.1.1
      refine a_iload_n (kX5_think.at 15 rfl) 3 rfl ?_
      refine a_iconst (kX5_think.at 16 rfl) rfl ?_
      refine a_icmpge (tgt := 89) (kX5_think.at 17 rfl) (by decide) (fun h30 => ?_) (fun h30 => ?_)
      · obtain rfl : x = 3 := by omega
        exact kk N hy hz
      · refine a_aload_n (kX5_think.at 18 rfl) 0 rfl ?_
        refine a_getR (kX5_think.at 19 rfl) fg_X5_33 ir_0_4 ?_
        refine a_aload_n (kX5_think.at 20 rfl) 0 rfl ?_
        refine a_getR (kX5_think.at 21 rfl) fg_X5_10 ir_0_0 ?_
        refine a_aload_n (kX5_think.at 22 rfl) 0 rfl ?_
        refine a_getR (kX5_think.at 23 rfl) fg_X5_19 ir_0_1 ?_
        refine a_sipush (kX5_think.at 24 rfl) rfl rfl ?_
        refine AW.callV (as := [vR 1, vR 2, vI 255]) (st := []) (kX5_think.at 25 rfl) ml_X5_157 sv_X1_load (k := 5) (io_5) rfl rfl ⟨Nat.le_of_ble_eq_true rfl, Nat.le_of_ble_eq_true rfl⟩ ⟨Nat.le_refl _, Nat.le_refl _⟩ rfl rfl (Nat.le_of_ble_eq_true rfl) (k_loadT G N K 255 hCN h (by omega)) (kV fun N2 hN2 => ?_)
        skip
        refine a_aload_n (kX5_think.at 26 rfl) 0 rfl ?_
        refine a_getR (kX5_think.at 27 rfl) fg_X5_33 ir_0_4 ?_
        refine a_iload_n (kX5_think.at 28 rfl) 3 rfl ?_
        refine a_iconst (kX5_think.at 29 rfl) rfl ?_
        refine a_iload_n (kX5_think.at 30 rfl) 1 rfl ?_
        refine AW.callV (as := [vI x, vI 0, vI k]) (st := []) (kX5_think.at 31 rfl) ml_X5_175 sv_X1_plan (k := 5) (io_5) rfl rfl ⟨Nat.le_of_ble_eq_true rfl, Nat.le_of_ble_eq_true rfl⟩ ⟨Nat.le_refl _, Nat.le_refl _⟩ rfl rfl (Nat.le_of_ble_eq_true rfl) (k_planT G N2 x 0 k (by omega) (by omega) (by omega)) (kVE ?_)
        refine a_aload_n (kX5_think.at 32 rfl) 0 rfl ?_
        refine a_getR (kX5_think.at 33 rfl) fg_X5_33 ir_0_4 ?_
        refine AW.callV (as := []) (st := []) (kX5_think.at 34 rfl) ml_X5_162 sv_X1_run (k := 5) (io_5) rfl rfl ⟨Nat.le_of_ble_eq_true rfl, Nat.le_of_ble_eq_true rfl⟩ ⟨Nat.le_refl _, Nat.le_refl _⟩ rfl rfl (Nat.le_of_ble_eq_true rfl) (k_runT G (upm N2 35 0 (plS (N2 35 0) x k)) (upm (upm (upm (reads K).1 44 12 0) 44 14 k) 44 13 x) (LD_th (LD_all hCN h hN2) (reads_12 h) k x) (IR_th hI.1) (EV_th hI.2 (by omega) (by omega))) (kV fun N3 hN3 => ?_)
        skip
        obtain ⟨s3, t3, r3, f3⟩ := hN3
        have hm := s3.m r3
        refine a_aload_n (kX5_think.at 35 rfl) 0 rfl ?_
        refine a_getR (kX5_think.at 36 rfl) fg_X5_39 ir_0_5 ?_
        refine a_iload_n (kX5_think.at 37 rfl) 3 rfl ?_
        refine a_aload_n (kX5_think.at 38 rfl) 0 rfl ?_
        refine a_getR (kX5_think.at 39 rfl) fg_X5_33 ir_0_4 ?_
        refine a_getI (x := N3 5 9) (kX5_think.at 40 rfl) fg_X5_133 ii_5_9 (rfl) ?_
        have hy5 : Fy M (ofM N3 x (N3 5 9)) := (hy.trans hN2.y).trans ((Fy_35 _ _ _).trans (f3.y.trans (ofM_y _ _ _)))
        have hz5 : chR (ofM N3 x (N3 5 9)) (forR 0 (x + 1) (thP (reads K).1 k) (-1, 999)) ((0 : Int) < x + 1) := by
          rw [forR_succ hk0]
          unfold thP mvT
          rw [← hm.1]
          exact chR_go hz (fun y => by rw [f3.d, rd_ne (by omega), hN2.d]) hk0 hm.2
        refine AW.callV (as := [vI x, vI (N3 5 9)]) (st := []) (kX5_think.at 41 rfl) ml_X5_165 sv_X0_offer (k := 6) (io_6) rfl rfl ⟨Nat.le_of_ble_eq_true rfl, Nat.le_of_ble_eq_true rfl⟩ ⟨Nat.le_refl _, Nat.le_refl _⟩ rfl rfl (Nat.le_of_ble_eq_true rfl) (k_offerM G N3 x (N3 5 9)) (kVE ?_)
        refine a_iinc (ls' := [(0, vR 0), (1, vI k), (2, vI w), (3, vI (x + 1))]) (kX5_think.at 42 rfl) 3 rfl (by decide) (inr (by omega)) rfl ?_
        refine a_goto (tgt := 28) (kX5_think.at 43 rfl) (by decide) ?_
        exact ih ((x + 1)) ((ofM N3 x (N3 5 9))) (by omega) (by omega) (hy5) (hz5) (by omega)
  exact key ((3) - (0) + 1 : Int).toNat (0) M (Int.le_refl _) hlohi  (Fy.refl M) (⟨Or.inl ⟨hM, forR_nil (Int.le_refl _)⟩, fun u => absurd u (by omega)⟩) (by omega)
theorem think_eq {K : Mem} (h : MB K) {k w : Int} : thinkS (find K) k w = thinkS (reads K).1 k w := thinkS_E (rf_InE K) (reads_BI h).1 k w
theorem k_think (G : GT) (M K : Mem) (k w : Int) (hC : Cp M K) (h : MB K) : AM G yX5_think cX5_think 4 (some .int) 4 M [vR 0, vI k, vI w] (pI fun r N => r = o_think K k w ∧ Fy M N) := by
  refine AM.mk (own := RX5) rfl sv_X5_think.1.2.2.2.2.2 (Nat.le_of_ble_eq_true rfl) rfl ?_
  have hI := CI_of hC h
  have ef := find_p K
  have hp := hI.1.1
  have e5 := hC.2.1.2.1
  have y0 : Fy M (upm (upm M 6 0 (-1)) 6 1 0) := fun c x a b d e => by rw [rd_ne d, rd_ne d]
  refine a_aload_n (kX5_think.at 0 rfl) 0 rfl ?_
  refine a_iload_n (kX5_think.at 1 rfl) 1 rfl ?_
  refine AW.callV (as := [vI k]) (st := []) (kX5_think.at 2 rfl) ml_X5_70 sv_X5_isPerson (k := 0) (io_0) rfl rfl ⟨Nat.le_of_ble_eq_true rfl, Nat.le_of_ble_eq_true rfl⟩ ⟨Nat.le_refl _, Nat.le_refl _⟩ rfl rfl (Nat.le_of_ble_eq_true rfl) (k_isPerson G M k) (kIE ?_)
  refine a_ifeqB (tgt := 16) (kX5_think.at 3 rfl) (by decide) (fun h5 => ?_) (fun h5 => ?_)
  · refine a_bipush (kX5_think.at 8 rfl) rfl rfl ?_
    exact a_iret (kX5_think.at 9 rfl) (by unfold o_think; first | (rw [if_neg (by omega)]; exact ⟨rfl, Fy.refl M⟩) | (rw [if_pos (by omega), think_eq h]; unfold thinkS; first | (rw [if_pos (by omega)]; exact ⟨hz.1, y0.trans hy⟩) | (rw [if_neg (by omega)]; exact ⟨hz.2, y0.trans hy⟩)))
  · refine a_iload_n (kX5_think.at 4 rfl) 2 rfl ?_
    refine a_iconst (kX5_think.at 5 rfl) rfl ?_
    refine AW.callS (as := [vI w, vI 2]) (st := []) (kX5_think.at 6 rfl) ml_X5_74 ss_X5_isBelow ⟨Nat.le_of_ble_eq_true rfl, Nat.le_of_ble_eq_true rfl⟩ ⟨Nat.le_refl _, Nat.le_refl _⟩ rfl rfl (Nat.le_of_ble_eq_true rfl) (k_isBelow G M w 2) (kIE ?_)
    refine a_ifneB (tgt := 19) (kX5_think.at 7 rfl) (by decide) (fun h13 => ?_) (fun h13 => ?_)
    · refine a_aload_n (kX5_think.at 10 rfl) 0 rfl ?_
      refine a_getR (kX5_think.at 11 rfl) fg_X5_39 ir_0_5 ?_
      refine AW.callV (as := []) (st := []) (kX5_think.at 12 rfl) ml_X5_151 sv_X0_clear (k := 6) (io_6) rfl rfl ⟨Nat.le_of_ble_eq_true rfl, Nat.le_of_ble_eq_true rfl⟩ ⟨Nat.le_refl _, Nat.le_refl _⟩ rfl rfl (Nat.le_of_ble_eq_true rfl) (k_clear G M) (kVE ?_)
      refine a_iconst (kX5_think.at 13 rfl) rfl ?_
      refine a_istore_n (ls' := [(0, vR 0), (1, vI k), (2, vI w), (3, vI 0)]) (kX5_think.at 14 rfl) (by decide) rfl ?_
      refine l_kthink G (upm (upm M 6 0 (-1)) 6 1 0) K k w _ (hC.y h y0) h hI (by omega) (by rw [rd_ni (by omega), rd_eq]) (by omega) ?_
      intro N1 hy hz
      show AW _ _ _ _ _ _ 89 [(0, vR 0), (1, vI k), (2, vI w), (3, vI 3)] [] N1
      have hz := hz.end (by omega)
      refine a_iload_n (kX5_think.at 44 rfl) 2 rfl ?_
      refine a_ifne (tgt := 103) (kX5_think.at 45 rfl) (by decide) (fun h90 => ?_) (fun h90 => ?_)
      · refine a_aload_n (kX5_think.at 50 rfl) 0 rfl ?_
        refine a_getR (kX5_think.at 51 rfl) fg_X5_39 ir_0_5 ?_
        refine a_getI (x := N1 6 1) (kX5_think.at 52 rfl) fg_X5_172 ii_6_1 (rfl) ?_
        exact a_iret (kX5_think.at 53 rfl) (by unfold o_think; first | (rw [if_neg (by omega)]; exact ⟨rfl, Fy.refl M⟩) | (rw [if_pos (by omega), think_eq h]; unfold thinkS; first | (rw [if_pos (by omega)]; exact ⟨hz.1, y0.trans hy⟩) | (rw [if_neg (by omega)]; exact ⟨hz.2, y0.trans hy⟩)))
      · refine a_aload_n (kX5_think.at 46 rfl) 0 rfl ?_
        refine a_getR (kX5_think.at 47 rfl) fg_X5_39 ir_0_5 ?_
        refine a_getI (x := N1 6 0) (kX5_think.at 48 rfl) fg_X5_169 ii_6_0 (rfl) ?_
        refine a_goto (tgt := 110) (kX5_think.at 49 rfl) (by decide) ?_
        exact a_iret (kX5_think.at 53 rfl) (by unfold o_think; first | (rw [if_neg (by omega)]; exact ⟨rfl, Fy.refl M⟩) | (rw [if_pos (by omega), think_eq h]; unfold thinkS; first | (rw [if_pos (by omega)]; exact ⟨hz.1, y0.trans hy⟩) | (rw [if_neg (by omega)]; exact ⟨hz.2, y0.trans hy⟩)))
    · refine a_bipush (kX5_think.at 8 rfl) rfl rfl ?_
      exact a_iret (kX5_think.at 9 rfl) (by unfold o_think; first | (rw [if_neg (by omega)]; exact ⟨rfl, Fy.refl M⟩) | (rw [if_pos (by omega), think_eq h]; unfold thinkS; first | (rw [if_pos (by omega)]; exact ⟨hz.1, y0.trans hy⟩) | (rw [if_neg (by omega)]; exact ⟨hz.2, y0.trans hy⟩)))
set_option maxHeartbeats 4000000 in
set_option maxRecDepth 100000 in
theorem l_krest (G : GT) (M K : Mem) (w : Int) (P : Option AV → Mem → Prop) (hC : Cp M K) (h : MB K) (hI : CI K) (hM : M 6 0 = -1) (hlohi : (0 : Int) ≤ 16) (kk : ∀ (N : Mem), (Fy M N) → (chR N (forR 0 16 (rsP (reads K).1) (-1, 999)) ((0 : Int) < 16)) → AW G RX5 cX5_rest 3 (some .int) (XM G 4 P) 82 [(0, vR 0), (1, vI w), (2, vI 16)] [] N) : AW G RX5 cX5_rest 3 (some .int) (XM G 4 P) 20 [(0, vR 0), (1, vI w), (2, vI 0)] [] M := by
  have key : ∀ (nn : Nat) (x : Int)  (N : Mem), (0 : Int) ≤ x → x ≤ 16 → (Fy M N) → (chR N (forR 0 x (rsP (reads K).1) (-1, 999)) ((0 : Int) < x)) → 16 - x < nn → AW G RX5 cX5_rest 3 (some .int) (XM G 4 P) 20 [(0, vR 0), (1, vI w), (2, vI x)] [] N := by
    intro nn
    induction nn with
    | zero => intro x N hk0 hk1  hy hz hn; omega
    | succ nn ih =>
      intro x N hk0 hk1  hy hz hn
      have hCN := hC.y h hy
      refine a_iload_n (kX5_rest.at 11 rfl) 2 rfl ?_
      refine a_bipush (kX5_rest.at 12 rfl) rfl rfl ?_
      refine a_icmpge (tgt := 82) (kX5_rest.at 13 rfl) (by decide) (fun h23 => ?_) (fun h23 => ?_)
      · obtain rfl : x = 16 := by omega
        exact kk N hy hz
      · refine a_aload_n (kX5_rest.at 14 rfl) 0 rfl ?_
        refine a_getR (kX5_rest.at 15 rfl) fg_X5_33 ir_0_4 ?_
        refine a_aload_n (kX5_rest.at 16 rfl) 0 rfl ?_
        refine a_getR (kX5_rest.at 17 rfl) fg_X5_10 ir_0_0 ?_
        refine a_aload_n (kX5_rest.at 18 rfl) 0 rfl ?_
        refine a_getR (kX5_rest.at 19 rfl) fg_X5_19 ir_0_1 ?_
        refine a_sipush (kX5_rest.at 20 rfl) rfl rfl ?_
        refine AW.callV (as := [vR 1, vR 2, vI 255]) (st := []) (kX5_rest.at 21 rfl) ml_X5_157 sv_X1_load (k := 5) (io_5) rfl rfl ⟨Nat.le_of_ble_eq_true rfl, Nat.le_of_ble_eq_true rfl⟩ ⟨Nat.le_refl _, Nat.le_refl _⟩ rfl rfl (Nat.le_of_ble_eq_true rfl) (k_loadT G N K 255 hCN h (by omega)) (kV fun N2 hN2 => ?_)
        skip
        refine a_aload_n (kX5_rest.at 22 rfl) 0 rfl ?_
        refine a_getR (kX5_rest.at 23 rfl) fg_X5_33 ir_0_4 ?_
        refine a_iconst (kX5_rest.at 24 rfl) rfl ?_
        refine a_iload_n (kX5_rest.at 25 rfl) 2 rfl ?_
        refine a_iconst (kX5_rest.at 26 rfl) rfl ?_
        refine AW.callV (as := [vI 3, vI x, vI 0]) (st := []) (kX5_rest.at 27 rfl) ml_X5_175 sv_X1_plan (k := 5) (io_5) rfl rfl ⟨Nat.le_of_ble_eq_true rfl, Nat.le_of_ble_eq_true rfl⟩ ⟨Nat.le_refl _, Nat.le_refl _⟩ rfl rfl (Nat.le_of_ble_eq_true rfl) (k_planT G N2 3 x 0 (by omega) (by omega) (by omega)) (kVE ?_)
        refine a_aload_n (kX5_rest.at 28 rfl) 0 rfl ?_
        refine a_getR (kX5_rest.at 29 rfl) fg_X5_33 ir_0_4 ?_
        refine AW.callV (as := []) (st := []) (kX5_rest.at 30 rfl) ml_X5_162 sv_X1_run (k := 5) (io_5) rfl rfl ⟨Nat.le_of_ble_eq_true rfl, Nat.le_of_ble_eq_true rfl⟩ ⟨Nat.le_refl _, Nat.le_refl _⟩ rfl rfl (Nat.le_of_ble_eq_true rfl) (k_runT G (upm N2 35 x (plS (N2 35 x) 3 0)) (upm (upm (reads K).1 44 13 3) 44 12 x) (LD_rs (LD_all hCN h hN2) (reads_12 h) hk0) (IR_rs hI.1) (EV_rs hI.2)) (kV fun N3 hN3 => ?_)
        skip
        obtain ⟨s3, t3, r3, f3⟩ := hN3
        have hm := s3.m r3
        refine a_aload_n (kX5_rest.at 31 rfl) 0 rfl ?_
        refine a_getR (kX5_rest.at 32 rfl) fg_X5_39 ir_0_5 ?_
        refine a_iload_n (kX5_rest.at 33 rfl) 2 rfl ?_
        refine a_aload_n (kX5_rest.at 34 rfl) 0 rfl ?_
        refine a_getR (kX5_rest.at 35 rfl) fg_X5_33 ir_0_4 ?_
        refine a_getI (x := N3 5 9) (kX5_rest.at 36 rfl) fg_X5_133 ii_5_9 (rfl) ?_
        have hy5 : Fy M (ofM N3 x (N3 5 9)) := (hy.trans hN2.y).trans ((Fy_35 _ _ _).trans (f3.y.trans (ofM_y _ _ _)))
        have hz5 : chR (ofM N3 x (N3 5 9)) (forR 0 (x + 1) (rsP (reads K).1) (-1, 999)) ((0 : Int) < x + 1) := by
          rw [forR_succ hk0]
          unfold rsP mvR
          rw [← hm.1]
          exact chR_go hz (fun y => by rw [f3.d, rd_ne (by omega), hN2.d]) hk0 hm.2
        refine AW.callV (as := [vI x, vI (N3 5 9)]) (st := []) (kX5_rest.at 37 rfl) ml_X5_165 sv_X0_offer (k := 6) (io_6) rfl rfl ⟨Nat.le_of_ble_eq_true rfl, Nat.le_of_ble_eq_true rfl⟩ ⟨Nat.le_refl _, Nat.le_refl _⟩ rfl rfl (Nat.le_of_ble_eq_true rfl) (k_offerM G N3 x (N3 5 9)) (kVE ?_)
        refine a_iinc (ls' := [(0, vR 0), (1, vI w), (2, vI (x + 1))]) (kX5_rest.at 38 rfl) 2 rfl (by decide) (inr (by omega)) rfl ?_
        refine a_goto (tgt := 20) (kX5_rest.at 39 rfl) (by decide) ?_
        exact ih ((x + 1)) ((ofM N3 x (N3 5 9))) (by omega) (by omega) (hy5) (hz5) (by omega)
  exact key ((16) - (0) + 1 : Int).toNat (0) M (Int.le_refl _) hlohi  (Fy.refl M) (⟨Or.inl ⟨hM, forR_nil (Int.le_refl _)⟩, fun u => absurd u (by omega)⟩) (by omega)
theorem rest_eq {K : Mem} (h : MB K) {w : Int} : restS (find K) w = restS (reads K).1 w := restS_E (rf_InE K) (reads_BI h).1 w
theorem k_rest (G : GT) (M K : Mem) (w : Int) (hC : Cp M K) (h : MB K) : AM G yX5_rest cX5_rest 3 (some .int) 4 M [vR 0, vI w] (pI fun r N => r = o_rest K w ∧ Fy M N) := by
  refine AM.mk (own := RX5) rfl sv_X5_rest.1.2.2.2.2.2 (Nat.le_of_ble_eq_true rfl) rfl ?_
  have hI := CI_of hC h
  have y0 : Fy M (upm (upm M 6 0 (-1)) 6 1 0) := fun c x a b d e => by rw [rd_ne d, rd_ne d]
  refine a_iload_n (kX5_rest.at 0 rfl) 1 rfl ?_
  refine a_iconst (kX5_rest.at 1 rfl) rfl ?_
  refine AW.callS (as := [vI w, vI 2]) (st := []) (kX5_rest.at 2 rfl) ml_X5_74 ss_X5_isBelow ⟨Nat.le_of_ble_eq_true rfl, Nat.le_of_ble_eq_true rfl⟩ ⟨Nat.le_refl _, Nat.le_refl _⟩ rfl rfl (Nat.le_of_ble_eq_true rfl) (k_isBelow G M w 2) (kIE ?_)
  refine a_ifneB (tgt := 11) (kX5_rest.at 3 rfl) (by decide) (fun h5 => ?_) (fun h5 => ?_)
  · refine a_aload_n (kX5_rest.at 6 rfl) 0 rfl ?_
    refine a_getR (kX5_rest.at 7 rfl) fg_X5_39 ir_0_5 ?_
    refine AW.callV (as := []) (st := []) (kX5_rest.at 8 rfl) ml_X5_151 sv_X0_clear (k := 6) (io_6) rfl rfl ⟨Nat.le_of_ble_eq_true rfl, Nat.le_of_ble_eq_true rfl⟩ ⟨Nat.le_refl _, Nat.le_refl _⟩ rfl rfl (Nat.le_of_ble_eq_true rfl) (k_clear G M) (kVE ?_)
    refine a_iconst (kX5_rest.at 9 rfl) rfl ?_
    refine a_istore_n (ls' := [(0, vR 0), (1, vI w), (2, vI 0)]) (kX5_rest.at 10 rfl) (by decide) rfl ?_
    refine l_krest G (upm (upm M 6 0 (-1)) 6 1 0) K w _ (hC.y h y0) h hI (by rw [rd_ni (by omega), rd_eq]) (by omega) ?_
    intro N1 hy hz
    show AW _ _ _ _ _ _ 82 [(0, vR 0), (1, vI w), (2, vI 16)] [] N1
    have hz := hz.end (by omega)
    refine a_iload_n (kX5_rest.at 40 rfl) 1 rfl ?_
    refine a_ifne (tgt := 96) (kX5_rest.at 41 rfl) (by decide) (fun h83 => ?_) (fun h83 => ?_)
    · refine a_aload_n (kX5_rest.at 46 rfl) 0 rfl ?_
      refine a_getR (kX5_rest.at 47 rfl) fg_X5_39 ir_0_5 ?_
      refine a_getI (x := N1 6 1) (kX5_rest.at 48 rfl) fg_X5_172 ii_6_1 (rfl) ?_
      exact a_iret (kX5_rest.at 49 rfl) (by unfold o_rest; first | (rw [if_neg (by omega)]; exact ⟨rfl, Fy.refl M⟩) | (rw [if_pos (by omega), rest_eq h]; unfold restS; first | (rw [if_pos (by omega)]; exact ⟨hz.1, y0.trans hy⟩) | (rw [if_neg (by omega)]; exact ⟨hz.2, y0.trans hy⟩)))
    · refine a_aload_n (kX5_rest.at 42 rfl) 0 rfl ?_
      refine a_getR (kX5_rest.at 43 rfl) fg_X5_39 ir_0_5 ?_
      refine a_getI (x := N1 6 0) (kX5_rest.at 44 rfl) fg_X5_169 ii_6_0 (rfl) ?_
      refine a_goto (tgt := 103) (kX5_rest.at 45 rfl) (by decide) ?_
      exact a_iret (kX5_rest.at 49 rfl) (by unfold o_rest; first | (rw [if_neg (by omega)]; exact ⟨rfl, Fy.refl M⟩) | (rw [if_pos (by omega), rest_eq h]; unfold restS; first | (rw [if_pos (by omega)]; exact ⟨hz.1, y0.trans hy⟩) | (rw [if_neg (by omega)]; exact ⟨hz.2, y0.trans hy⟩)))
  · refine a_bipush (kX5_rest.at 4 rfl) rfl rfl ?_
    exact a_iret (kX5_rest.at 5 rfl) (by unfold o_rest; first | (rw [if_neg (by omega)]; exact ⟨rfl, Fy.refl M⟩) | (rw [if_pos (by omega), rest_eq h]; unfold restS; first | (rw [if_pos (by omega)]; exact ⟨hz.1, y0.trans hy⟩) | (rw [if_neg (by omega)]; exact ⟨hz.2, y0.trans hy⟩)))
theorem wo_all : ∀ (b : Fin 256) (e : Fin 8), (0 ≤ iAnd 255 (iXor (b.val : Int) (-1)) ∧ iAnd 255 (iXor (b.val : Int) (-1)) ≤ 255) ∧ (isIn (iAnd 255 (iXor (b.val : Int) (-1))) (e.val : Int) = true ↔ ¬ isIn (b.val : Int) (e.val : Int) = true) := by decide +kernel
theorem wo_at {b : Int} (hb : 0 ≤ b ∧ b ≤ 255) : (0 ≤ iAnd 255 (iXor b (-1)) ∧ iAnd 255 (iXor b (-1)) ≤ 255) ∧ ∀ e, 0 ≤ e → e < 8 → (isIn (iAnd 255 (iXor b (-1))) e = true ↔ ¬ isIn b e = true) := by
  refine ⟨?_, fun e h1 h2 => ?_⟩
  · have z := (wo_all ⟨b.toNat, by omega⟩ ⟨0, by omega⟩).1
    simp only [] at z
    rw [show ((b.toNat : Nat) : Int) = b by omega] at z
    exact z
  · have z := (wo_all ⟨b.toNat, by omega⟩ ⟨e.toNat, by omega⟩).2
    simp only [] at z
    rw [show ((b.toNat : Nat) : Int) = b by omega, show ((e.toNat : Nat) : Int) = e by omega] at z
    exact z
theorem LD_wo {M K N : Mem} {b : Int} (hC : Cp M K) (h : MB K) (hb : 0 ≤ b ∧ b ≤ 255) (hL : LPd M N 1 (iAnd 255 (iXor b (-1)))) : LD N 1 (upm (reads K).1 44 11 b) := LD_load hC.1 hC.2.1 h hL (fun e a c => (wo_at hb).2 e a (by have := h.1.2.2; omega))
theorem k_endsWell (G : GT) (M K : Mem) (b : Int) (hC : Cp M K) (h : MB K) (hb : 0 ≤ b ∧ b ≤ 255) : AM G yX5_endsWellWithout cX5_endsWellWithout 2 (some .boolean) 4 M [vR 0, vI b] (pI fun r N => r = bI (trG (reads K).1 b = 0) ∧ Fy M N) := by
  refine AM.mk (own := RX5) rfl sv_X5_endsWellWithout.1.2.2.2.2.2 (Nat.le_of_ble_eq_true rfl) rfl ?_
  have hI := CI_of hC h
  refine a_aload_n (kX5_endsWellWithout.at 0 rfl) 0 rfl ?_
  refine a_getR (kX5_endsWellWithout.at 1 rfl) fg_X5_33 ir_0_4 ?_
  refine a_aload_n (kX5_endsWellWithout.at 2 rfl) 0 rfl ?_
  refine a_getR (kX5_endsWellWithout.at 3 rfl) fg_X5_10 ir_0_0 ?_
  refine a_aload_n (kX5_endsWellWithout.at 4 rfl) 0 rfl ?_
  refine a_getR (kX5_endsWellWithout.at 5 rfl) fg_X5_19 ir_0_1 ?_
  refine a_sipush (kX5_endsWellWithout.at 6 rfl) rfl rfl ?_
  refine a_iload_n (kX5_endsWellWithout.at 7 rfl) 1 rfl ?_
  refine a_iconst (kX5_endsWellWithout.at 8 rfl) rfl ?_
  refine a_ixor (kX5_endsWellWithout.at 9 rfl) ?_
  refine a_iand (kX5_endsWellWithout.at 10 rfl) ?_
  refine AW.callV (as := [vR 1, vR 2, vI (iAnd 255 (iXor b (-1)))]) (st := []) (kX5_endsWellWithout.at 11 rfl) ml_X5_157 sv_X1_load (k := 5) (io_5) rfl rfl ⟨Nat.le_of_ble_eq_true rfl, Nat.le_of_ble_eq_true rfl⟩ ⟨Nat.le_refl _, Nat.le_refl _⟩ rfl rfl (Nat.le_of_ble_eq_true rfl) (k_loadT G M K _ hC h (wo_at hb).1) (kV fun N2 hN2 => ?_)
  skip
  refine a_aload_n (kX5_endsWellWithout.at 12 rfl) 0 rfl ?_
  refine a_getR (kX5_endsWellWithout.at 13 rfl) fg_X5_33 ir_0_4 ?_
  refine AW.callV (as := []) (st := []) (kX5_endsWellWithout.at 14 rfl) ml_X5_162 sv_X1_run (k := 5) (io_5) rfl rfl ⟨Nat.le_of_ble_eq_true rfl, Nat.le_of_ble_eq_true rfl⟩ ⟨Nat.le_refl _, Nat.le_refl _⟩ rfl rfl (Nat.le_of_ble_eq_true rfl) (k_runT G N2 (upm (reads K).1 44 11 b) (LD_wo hC h hb hN2) (hI.1.g b) (hI.2.g b)) (kV fun N3 hN3 => ?_)
  skip
  obtain ⟨s3, t3, r3, f3⟩ := hN3
  have hm : N3 5 10 = trG (reads K).1 b := s3.2.2.2.1.2.1
  refine a_aload_n (kX5_endsWellWithout.at 15 rfl) 0 rfl ?_
  refine a_getR (kX5_endsWellWithout.at 16 rfl) fg_X5_33 ir_0_4 ?_
  refine a_getI (x := N3 5 10) (kX5_endsWellWithout.at 17 rfl) fg_X5_136 ii_5_10 (rfl) ?_
  refine a_ifne (tgt := 43) (kX5_endsWellWithout.at 18 rfl) (by decide) (fun h36 => ?_) (fun h36 => ?_)
  · refine a_iconst (kX5_endsWellWithout.at 21 rfl) rfl ?_
    exact a_zret (kX5_endsWellWithout.at 22 rfl) (by first | exact Or.inl rfl | exact Or.inr rfl | omega) (⟨by first | exact (bI_1 (by omega)).symm | exact (bI_0 (by omega)).symm, hN2.y.trans f3.y⟩)
  · refine a_iconst (kX5_endsWellWithout.at 19 rfl) rfl ?_
    refine a_goto (tgt := 44) (kX5_endsWellWithout.at 20 rfl) (by decide) ?_
    exact a_zret (kX5_endsWellWithout.at 22 rfl) (by first | exact Or.inl rfl | exact Or.inr rfl | omega) (⟨by first | exact (bI_1 (by omega)).symm | exact (bI_0 (by omega)).symm, hN2.y.trans f3.y⟩)
theorem QK_lives {N K R : Mem} (h : QK N K) (e28 : R 44 28 = K 44 28) (e60 : ∀ j, R 60 j = K 60 j) : QK N (lives R) := h.K fun c x a => by
  rcases a with ⟨rfl, rfl⟩ | rfl
  · rw [(Fr_lives R) 44 28 (by omega) (by omega)]; exact e28
  · rw [(Fr_lives R) 60 x (by omega) (by omega)]; exact e60 x
theorem reads_28 {K : Mem} (h : MB K) : (reads K).1 44 28 = K 44 28 := Ft_reads K h.1.1.1 44 28 (by omega) (by omega)
theorem reads_60 {K : Mem} (h : MB K) (j : Int) : (reads K).1 60 j = K 60 j := Ft_reads K h.1.1.1 60 j (by omega) (by omega)
theorem reads_9 {K : Mem} (h : MB K) : (reads K).1 44 9 = K 44 9 := Ft_reads K h.1.1.1 44 9 (by omega) (by omega)
theorem k_shows (G : GT) (N0 N M K R : Mem) (hC : Cp M K) (hF : Fy M N0) (s3 : SC N 1 (lives R)) (t3 : TR N 1 (lives R) 16) (r3 : SR (lives R) 16 0 0) (f3 : Fg 1 N0 N) (e28 : R 44 28 = K 44 28) (e60 : ∀ j, R 60 j = K 60 j) : AM G yX1_showsAll cX1_showsAll 3 (some .boolean) 1 N [vR 5, vR 3] (qI (bI (seenI (lives R) ≠ 0)) N) := by
  have hQ : QK N K := hC.2.2.1.ext (fun c x a => by rw [f3.y c x (by omega) (by omega) (by omega) (by omega), hF c x (by omega) (by omega) (by omega) (by omega)])
  exact k_showsAll G N (lives R) 1 (by omega) s3.1 r3.1.2 t3 (QK_lives hQ e28 e60)
theorem shl8 {e : Int} (h : 0 ≤ e ∧ e < 8) : 0 ≤ iShl 1 e ∧ iShl 1 e ≤ 255 := by
  have z := shl1_r h
  rw [show (2 : Int) ^ 8 = 256 by decide] at z
  omega
set_option maxHeartbeats 4000000 in
set_option maxRecDepth 100000 in
theorem l_knever (G : GT) (M K : Mem) (P : Option AV → Mem → Prop) (hC : Cp M K) (h : MB K) (hI : CI K) (hlohi : (0 : Int) ≤ (K 44 9)) (kk : ∀ (N : Mem), (Fy M N) → AW G RX5 cX5_never 3 (some .int) (XM G 4 P) 76 [(0, vR 0), (1, vI (forR 0 (K 44 9) (nvF (reads K).1) 0)), (2, vI (K 44 9))] [] N) : AW G RX5 cX5_never 3 (some .int) (XM G 4 P) 4 [(0, vR 0), (1, vI 0), (2, vI 0)] [] M := by
  have key : ∀ (nn : Nat) (e : Int) (b : Int) (N : Mem), (0 : Int) ≤ e → e ≤ (K 44 9) → b = forR 0 e (nvF (reads K).1) 0 → (Fy M N) → (K 44 9) - e < nn → AW G RX5 cX5_never 3 (some .int) (XM G 4 P) 4 [(0, vR 0), (1, vI b), (2, vI e)] [] N := by
    intro nn
    induction nn with
    | zero => intro e b N hk0 hk1 e_b hy hn; omega
    | succ nn ih =>
      intro e b N hk0 hk1 e_b hy hn
      have hCN := hC.y h hy
      have e9 := hCN.1.2.1.1
      have h9 := h.1.2.2
      have hsh : e < K 44 9 → 0 ≤ iShl 1 e ∧ iShl 1 e ≤ 255 := fun u => shl8 (by omega)
      refine a_iload_n (kX5_never.at 4 rfl) 2 rfl ?_
      refine a_aload_n (kX5_never.at 5 rfl) 0 rfl ?_
      refine a_getR (kX5_never.at 6 rfl) fg_X5_19 ir_0_1 ?_
      refine a_getI (x := N 2 3) (kX5_never.at 7 rfl) fg_X5_91 ii_2_3 (rfl) ?_
      refine a_icmpge (tgt := 76) (kX5_never.at 8 rfl) (by decide) (fun h12 => ?_) (fun h12 => ?_)
      · subst e_b
        obtain rfl : e = K 44 9 := by omega
        exact kk N hy
      · refine a_aload_n (kX5_never.at 9 rfl) 0 rfl ?_
        refine a_getR (kX5_never.at 10 rfl) fg_X5_33 ir_0_4 ?_
        refine a_aload_n (kX5_never.at 11 rfl) 0 rfl ?_
        refine a_getR (kX5_never.at 12 rfl) fg_X5_10 ir_0_0 ?_
        refine a_aload_n (kX5_never.at 13 rfl) 0 rfl ?_
        refine a_getR (kX5_never.at 14 rfl) fg_X5_19 ir_0_1 ?_
        refine a_sipush (kX5_never.at 15 rfl) rfl rfl ?_
        refine a_iconst (kX5_never.at 16 rfl) rfl ?_
        refine a_iload_n (kX5_never.at 17 rfl) 2 rfl ?_
        refine a_ishl (kX5_never.at 18 rfl) ?_
        refine a_iconst (kX5_never.at 19 rfl) rfl ?_
        refine a_ixor (kX5_never.at 20 rfl) ?_
        refine a_iand (kX5_never.at 21 rfl) ?_
        refine AW.callV (as := [vR 1, vR 2, vI (iAnd 255 (iXor (iShl 1 e) (-1)))]) (st := []) (kX5_never.at 22 rfl) ml_X5_157 sv_X1_load (k := 5) (io_5) rfl rfl ⟨Nat.le_of_ble_eq_true rfl, Nat.le_of_ble_eq_true rfl⟩ ⟨Nat.le_refl _, Nat.le_refl _⟩ rfl rfl (Nat.le_of_ble_eq_true rfl) (k_loadT G N K _ hCN h (wo_at (hsh (by omega))).1) (kV fun N2 hN2 => ?_)
        skip
        refine a_aload_n (kX5_never.at 23 rfl) 0 rfl ?_
        refine a_getR (kX5_never.at 24 rfl) fg_X5_33 ir_0_4 ?_
        refine AW.callV (as := []) (st := []) (kX5_never.at 25 rfl) ml_X5_162 sv_X1_run (k := 5) (io_5) rfl rfl ⟨Nat.le_of_ble_eq_true rfl, Nat.le_of_ble_eq_true rfl⟩ ⟨Nat.le_refl _, Nat.le_refl _⟩ rfl rfl (Nat.le_of_ble_eq_true rfl) (k_runT G N2 (upm (reads K).1 44 11 (iShl 1 e)) (LD_wo hCN h (hsh (by omega)) hN2) (hI.1.g _) (hI.2.g _)) (kV fun N3 hN3 => ?_)
        skip
        obtain ⟨s3, t3, r3, f3⟩ := hN3
        have hy5 : Fy M N3 := (hy.trans hN2.y).trans f3.y
        refine a_iload_n (kX5_never.at 26 rfl) 1 rfl ?_
        refine a_aload_n (kX5_never.at 27 rfl) 0 rfl ?_
        refine a_getR (kX5_never.at 28 rfl) fg_X5_33 ir_0_4 ?_
        refine a_aload_n (kX5_never.at 29 rfl) 0 rfl ?_
        refine a_getR (kX5_never.at 30 rfl) fg_X5_23 ir_0_2 ?_
        refine AW.callV (as := [vR 3]) (st := [vI b]) (kX5_never.at 31 rfl) ml_X5_189 sv_X1_showsAll (k := 5) (io_5) rfl rfl ⟨Nat.le_of_ble_eq_true rfl, Nat.le_of_ble_eq_true rfl⟩ ⟨Nat.le_refl _, Nat.le_refl _⟩ rfl rfl (Nat.le_of_ble_eq_true rfl) (k_shows G N2 N3 M K _ hC (hy.trans hN2.y) s3 t3 r3 f3 (reads_28 h) (reads_60 h)) (kIE ?_)
        refine a_ifeqB (tgt := 67) (kX5_never.at 32 rfl) (by decide) (fun h58 => ?_) (fun h58 => ?_)
        · refine a_iconst (kX5_never.at 37 rfl) rfl ?_
          refine a_ior (kX5_never.at 38 rfl) ?_
          refine a_istore_n (ls' := [(0, vR 0), (1, vI (iOr b 0)), (2, vI e)]) (kX5_never.at 39 rfl) (by decide) rfl ?_
          refine a_iinc (ls' := [(0, vR 0), (1, vI (iOr b 0)), (2, vI (e + 1))]) (kX5_never.at 40 rfl) 2 rfl (by decide) (inr (by omega)) rfl ?_
          refine a_goto (tgt := 4) (kX5_never.at 41 rfl) (by decide) ?_
          exact ih ((e + 1)) ((iOr b 0)) (N3) (by omega) (by omega) (by rw [forR_succ hk0, ← e_b] <;> (clear ih kk e_b; unfold nvF; first | (rw [if_neg h58]) | (rw [if_pos (by omega)]))) (hy5) (by omega)
        · refine a_iconst (kX5_never.at 33 rfl) rfl ?_
          refine a_iload_n (kX5_never.at 34 rfl) 2 rfl ?_
          refine a_ishl (kX5_never.at 35 rfl) ?_
          refine a_goto (tgt := 68) (kX5_never.at 36 rfl) (by decide) ?_
          refine a_ior (kX5_never.at 38 rfl) ?_
          refine a_istore_n (ls' := [(0, vR 0), (1, vI (iOr b (iShl 1 e))), (2, vI e)]) (kX5_never.at 39 rfl) (by decide) rfl ?_
          refine a_iinc (ls' := [(0, vR 0), (1, vI (iOr b (iShl 1 e))), (2, vI (e + 1))]) (kX5_never.at 40 rfl) 2 rfl (by decide) (inr (by omega)) rfl ?_
          refine a_goto (tgt := 4) (kX5_never.at 41 rfl) (by decide) ?_
          exact ih ((e + 1)) ((iOr b (iShl 1 e))) (N3) (by omega) (by omega) (by rw [forR_succ hk0, ← e_b] <;> (clear ih kk e_b; unfold nvF; first | (rw [if_neg h58]) | (rw [if_pos (by omega)]))) (hy5) (by omega)
  exact key ((K 44 9) - (0) + 1 : Int).toNat (0) 0 M (Int.le_refl _) hlohi (forR_nil (Int.le_refl _)).symm (Fy.refl M) (by omega)
theorem never_eq {K : Mem} (h : MB K) : neverS (find K) = neverS (reads K).1 := neverS_E (rf_IE h) (reads_BI h).1 (reads_BI h).2
theorem k_never (G : GT) (M K : Mem) (hC : Cp M K) (h : MB K) : AM G yX5_never cX5_never 3 (some .int) 4 M [vR 0] (pI fun r N => r = neverS (find K) ∧ Fy M N) := by
  refine AM.mk (own := RX5) rfl sv_X5_never.1.2.2.2.2.2 (Nat.le_of_ble_eq_true rfl) rfl ?_
  have hI := CI_of hC h
  have h9 := h.1.2.2
  refine a_iconst (kX5_never.at 0 rfl) rfl ?_
  refine a_istore_n (ls' := [(0, vR 0), (1, vI 0)]) (kX5_never.at 1 rfl) (by decide) rfl ?_
  refine a_iconst (kX5_never.at 2 rfl) rfl ?_
  refine a_istore_n (ls' := [(0, vR 0), (1, vI 0), (2, vI 0)]) (kX5_never.at 3 rfl) (by decide) rfl ?_
  refine l_knever G M K _ hC h hI (by omega) ?_
  intro N1 hy
  show AW _ _ _ _ _ _ 76 [(0, vR 0), (1, vI (forR 0 (K 44 9) (nvF (reads K).1) 0)), (2, vI (K 44 9))] [] N1
  refine a_iload_n (kX5_never.at 42 rfl) 1 rfl ?_
  exact a_iret (kX5_never.at 43 rfl) (⟨by rw [never_eq h]; unfold neverS; rw [reads_9 h], hy⟩)
theorem IR_views {R : Mem} (hI : IR R) {k v : Int} (hv : 0 ≤ v ∧ v ≤ 7) : IR (upm R 50 (3 * k + 1) v) := by
  refine ⟨hI.1, fun p a b => ?_, fun p q a b c d e => ?_⟩
  · have b' : p < R 44 7 := b
    rw [rd_ni (j := 3 * p + 2) (by omega)]
    refine ⟨?_, (hI.2.1 p a b').2⟩
    by_cases ep : p = k
    · rw [ep, rd_eq]; exact hv
    · rw [rd_ni (by omega)]; exact (hI.2.1 p a b').1
  · rw [rd_ni (by omega), rd_ni (by omega)] at e
    exact hI.2.2 p q a b c d e
theorem IR_sort {R : Mem} (hI : IR R) {k v : Int} : IR (upm R 50 (3 * k) v) := by
  refine ⟨hI.1, fun p a b => ?_, fun p q a b c d e => ?_⟩
  · have b' : p < R 44 7 := b
    rw [rd_ni (j := 3 * p + 2) (by omega), rd_ni (j := 3 * p + 1) (by omega)]
    exact hI.2.1 p a b'
  · rw [rd_ni (by omega), rd_ni (by omega)] at e
    exact hI.2.2 p q a b c d e
theorem LD_sort {N R : Mem} (h : LD N 1 R) (k v : Int) (hk : 0 ≤ k ∧ k < R 44 7) : LD (upm N 32 k v) 1 (upm R 50 (3 * k) v) := by
  have z := LD_at h 0 (by omega) k v hk
  rw [show 3 * k + ((0 : Nat) : Int) = 3 * k by omega] at z
  exact z
set_option maxHeartbeats 4000000 in
set_option maxRecDepth 100000 in
theorem l_kwas0 (G : GT) (M K : Mem) (k w : Int) (P : Option AV → Mem → Prop) (hC : Cp M K) (h : MB K) (hI : CI K) (hk : 0 ≤ k ∧ k < (reads K).1 44 7) (hw : w = 0) (hlohi : (0 : Int) ≤ 8) (kk : ∀ (N : Mem), (Fy M N) → AW G RX5 cX5_was 5 (some .int) (XM G 4 P) 124 [(0, vR 0), (1, vI k), (2, vI w), (3, vI (forR 0 8 (soF (reads K).1 (3 * k + 1)) 0)), (4, vI 8)] [] N) : AW G RX5 cX5_was 5 (some .int) (XM G 4 P) 24 [(0, vR 0), (1, vI k), (2, vI w), (3, vI 0), (4, vI 0)] [] M := by
  have key : ∀ (nn : Nat) (v : Int) (b : Int) (N : Mem), (0 : Int) ≤ v → v ≤ 8 → b = forR 0 v (soF (reads K).1 (3 * k + 1)) 0 → (Fy M N) → 8 - v < nn → AW G RX5 cX5_was 5 (some .int) (XM G 4 P) 24 [(0, vR 0), (1, vI k), (2, vI w), (3, vI b), (4, vI v)] [] N := by
    intro nn
    induction nn with
    | zero => intro v b N hk0 hk1 e_b hy hn; omega
    | succ nn ih =>
      intro v b N hk0 hk1 e_b hy hn
      have hCN := hC.y h hy
      have hp8 := hI.1.1
      refine a_iload (kX5_was.at 14 rfl) 4 rfl ?_
      refine a_iload_n (kX5_was.at 15 rfl) 2 rfl ?_
      refine a_ifne (tgt := 35) (kX5_was.at 16 rfl) (by decide) (fun h27 => ?_) (fun h27 => ?_)
      · exfalso; omega
      · refine a_bipush (kX5_was.at 17 rfl) rfl rfl ?_
        refine a_goto (tgt := 36) (kX5_was.at 18 rfl) (by decide) ?_
        refine a_icmpge (tgt := 124) (kX5_was.at 20 rfl) (by decide) (fun h36 => ?_) (fun h36 => ?_)
        · subst e_b
          obtain rfl : v = 8 := by omega
          exact kk N hy
        · refine a_aload_n (kX5_was.at 21 rfl) 0 rfl ?_
          refine a_getR (kX5_was.at 22 rfl) fg_X5_33 ir_0_4 ?_
          refine a_aload_n (kX5_was.at 23 rfl) 0 rfl ?_
          refine a_getR (kX5_was.at 24 rfl) fg_X5_10 ir_0_0 ?_
          refine a_aload_n (kX5_was.at 25 rfl) 0 rfl ?_
          refine a_getR (kX5_was.at 26 rfl) fg_X5_19 ir_0_1 ?_
          refine a_sipush (kX5_was.at 27 rfl) rfl rfl ?_
          refine AW.callV (as := [vR 1, vR 2, vI 255]) (st := []) (kX5_was.at 28 rfl) ml_X5_157 sv_X1_load (k := 5) (io_5) rfl rfl ⟨Nat.le_of_ble_eq_true rfl, Nat.le_of_ble_eq_true rfl⟩ ⟨Nat.le_refl _, Nat.le_refl _⟩ rfl rfl (Nat.le_of_ble_eq_true rfl) (k_loadT G N K 255 hCN h (by omega)) (kV fun N2 hN2 => ?_)
          skip
          refine a_iload_n (kX5_was.at 29 rfl) 2 rfl ?_
          refine a_ifne (tgt := 75) (kX5_was.at 30 rfl) (by decide) (fun h58 => ?_) (fun h58 => ?_)
          · exfalso; omega
          · refine a_aload_n (kX5_was.at 31 rfl) 0 rfl ?_
            refine a_getR (kX5_was.at 32 rfl) fg_X5_33 ir_0_4 ?_
            refine a_getR (kX5_was.at 33 rfl) fg_X5_193 ir_5_1 ?_
            refine a_iload_n (kX5_was.at 34 rfl) 1 rfl ?_
            refine a_iload (kX5_was.at 35 rfl) 4 rfl ?_
            refine a_iast (kX5_was.at 36 rfl) (ia_33) (by omega) ?_
            refine a_goto (tgt := 86) (kX5_was.at 37 rfl) (by decide) ?_
            refine a_aload_n (kX5_was.at 44 rfl) 0 rfl ?_
            refine a_getR (kX5_was.at 45 rfl) fg_X5_33 ir_0_4 ?_
            refine AW.callV (as := []) (st := []) (kX5_was.at 46 rfl) ml_X5_162 sv_X1_run (k := 5) (io_5) rfl rfl ⟨Nat.le_of_ble_eq_true rfl, Nat.le_of_ble_eq_true rfl⟩ ⟨Nat.le_refl _, Nat.le_refl _⟩ rfl rfl (Nat.le_of_ble_eq_true rfl) (k_runT G (upm N2 33 k v) (upm (reads K).1 50 (3 * k + 1) v) (LD_at (LD_all hCN h hN2) 1 (by omega) k v hk) (IR_views hI.1 (by omega)) (hI.2.at50 _ _)) (kV fun N3 hN3 => ?_)
            skip
            obtain ⟨s3, t3, r3, f3⟩ := hN3
            have hy4 : Fy M (upm N2 33 k v) := (hy.trans hN2.y).trans (fun c x a b d e => rd_ne (by omega))
            have hy5 : Fy M N3 := hy4.trans f3.y
            refine a_iload_n (kX5_was.at 47 rfl) 3 rfl ?_
            refine a_aload_n (kX5_was.at 48 rfl) 0 rfl ?_
            refine a_getR (kX5_was.at 49 rfl) fg_X5_33 ir_0_4 ?_
            refine a_aload_n (kX5_was.at 50 rfl) 0 rfl ?_
            refine a_getR (kX5_was.at 51 rfl) fg_X5_23 ir_0_2 ?_
            refine AW.callV (as := [vR 3]) (st := [vI b]) (kX5_was.at 52 rfl) ml_X5_189 sv_X1_showsAll (k := 5) (io_5) rfl rfl ⟨Nat.le_of_ble_eq_true rfl, Nat.le_of_ble_eq_true rfl⟩ ⟨Nat.le_refl _, Nat.le_refl _⟩ rfl rfl (Nat.le_of_ble_eq_true rfl) (k_shows G (upm N2 33 k v) N3 M K _ hC hy4 s3 t3 r3 f3 (reads_28 h) (reads_60 h)) (kIE ?_)
            refine a_ifeqB (tgt := 115) (kX5_was.at 53 rfl) (by decide) (fun h105 => ?_) (fun h105 => ?_)
            · refine a_iconst (kX5_was.at 58 rfl) rfl ?_
              refine a_ior (kX5_was.at 59 rfl) ?_
              refine a_istore_n (ls' := [(0, vR 0), (1, vI k), (2, vI w), (3, vI (iOr b 0)), (4, vI v)]) (kX5_was.at 60 rfl) (by decide) rfl ?_
              refine a_iinc (ls' := [(0, vR 0), (1, vI k), (2, vI w), (3, vI (iOr b 0)), (4, vI (v + 1))]) (kX5_was.at 61 rfl) 4 rfl (by decide) (inr (by omega)) rfl ?_
              refine a_goto (tgt := 24) (kX5_was.at 62 rfl) (by decide) ?_
              exact ih ((v + 1)) ((iOr b 0)) (N3) (by omega) (by omega) (by rw [forR_succ hk0, ← e_b] <;> (clear ih kk e_b; unfold soF; first | (rw [if_neg h105]) | (rw [if_pos (by omega)]))) (hy5) (by omega)
            · refine a_iconst (kX5_was.at 54 rfl) rfl ?_
              refine a_iload (kX5_was.at 55 rfl) 4 rfl ?_
              refine a_ishl (kX5_was.at 56 rfl) ?_
              refine a_goto (tgt := 116) (kX5_was.at 57 rfl) (by decide) ?_
              refine a_ior (kX5_was.at 59 rfl) ?_
              refine a_istore_n (ls' := [(0, vR 0), (1, vI k), (2, vI w), (3, vI (iOr b (iShl 1 v))), (4, vI v)]) (kX5_was.at 60 rfl) (by decide) rfl ?_
              refine a_iinc (ls' := [(0, vR 0), (1, vI k), (2, vI w), (3, vI (iOr b (iShl 1 v))), (4, vI (v + 1))]) (kX5_was.at 61 rfl) 4 rfl (by decide) (inr (by omega)) rfl ?_
              refine a_goto (tgt := 24) (kX5_was.at 62 rfl) (by decide) ?_
              exact ih ((v + 1)) ((iOr b (iShl 1 v))) (N3) (by omega) (by omega) (by rw [forR_succ hk0, ← e_b] <;> (clear ih kk e_b; unfold soF; first | (rw [if_neg h105]) | (rw [if_pos (by omega)]))) (hy5) (by omega)
  exact key ((8) - (0) + 1 : Int).toNat (0) 0 M (Int.le_refl _) hlohi (forR_nil (Int.le_refl _)).symm (Fy.refl M) (by omega)
set_option maxHeartbeats 4000000 in
set_option maxRecDepth 100000 in
theorem l_kwas1 (G : GT) (M K : Mem) (k w : Int) (P : Option AV → Mem → Prop) (hC : Cp M K) (h : MB K) (hI : CI K) (hk : 0 ≤ k ∧ k < (reads K).1 44 7) (hw : ¬ w = 0) (hlohi : (0 : Int) ≤ 3) (kk : ∀ (N : Mem), (Fy M N) → AW G RX5 cX5_was 5 (some .int) (XM G 4 P) 124 [(0, vR 0), (1, vI k), (2, vI w), (3, vI (forR 0 3 (soF (reads K).1 (3 * k)) 0)), (4, vI 3)] [] N) : AW G RX5 cX5_was 5 (some .int) (XM G 4 P) 24 [(0, vR 0), (1, vI k), (2, vI w), (3, vI 0), (4, vI 0)] [] M := by
  have key : ∀ (nn : Nat) (v : Int) (b : Int) (N : Mem), (0 : Int) ≤ v → v ≤ 3 → b = forR 0 v (soF (reads K).1 (3 * k)) 0 → (Fy M N) → 3 - v < nn → AW G RX5 cX5_was 5 (some .int) (XM G 4 P) 24 [(0, vR 0), (1, vI k), (2, vI w), (3, vI b), (4, vI v)] [] N := by
    intro nn
    induction nn with
    | zero => intro v b N hk0 hk1 e_b hy hn; omega
    | succ nn ih =>
      intro v b N hk0 hk1 e_b hy hn
      have hCN := hC.y h hy
      have hp8 := hI.1.1
      refine a_iload (kX5_was.at 14 rfl) 4 rfl ?_
      refine a_iload_n (kX5_was.at 15 rfl) 2 rfl ?_
      refine a_ifne (tgt := 35) (kX5_was.at 16 rfl) (by decide) (fun h27 => ?_) (fun h27 => ?_)
      · refine a_iconst (kX5_was.at 19 rfl) rfl ?_
        refine a_icmpge (tgt := 124) (kX5_was.at 20 rfl) (by decide) (fun h36 => ?_) (fun h36 => ?_)
        · subst e_b
          obtain rfl : v = 3 := by omega
          exact kk N hy
        · refine a_aload_n (kX5_was.at 21 rfl) 0 rfl ?_
          refine a_getR (kX5_was.at 22 rfl) fg_X5_33 ir_0_4 ?_
          refine a_aload_n (kX5_was.at 23 rfl) 0 rfl ?_
          refine a_getR (kX5_was.at 24 rfl) fg_X5_10 ir_0_0 ?_
          refine a_aload_n (kX5_was.at 25 rfl) 0 rfl ?_
          refine a_getR (kX5_was.at 26 rfl) fg_X5_19 ir_0_1 ?_
          refine a_sipush (kX5_was.at 27 rfl) rfl rfl ?_
          refine AW.callV (as := [vR 1, vR 2, vI 255]) (st := []) (kX5_was.at 28 rfl) ml_X5_157 sv_X1_load (k := 5) (io_5) rfl rfl ⟨Nat.le_of_ble_eq_true rfl, Nat.le_of_ble_eq_true rfl⟩ ⟨Nat.le_refl _, Nat.le_refl _⟩ rfl rfl (Nat.le_of_ble_eq_true rfl) (k_loadT G N K 255 hCN h (by omega)) (kV fun N2 hN2 => ?_)
          skip
          refine a_iload_n (kX5_was.at 29 rfl) 2 rfl ?_
          refine a_ifne (tgt := 75) (kX5_was.at 30 rfl) (by decide) (fun h58 => ?_) (fun h58 => ?_)
          · refine a_aload_n (kX5_was.at 38 rfl) 0 rfl ?_
            refine a_getR (kX5_was.at 39 rfl) fg_X5_33 ir_0_4 ?_
            refine a_getR (kX5_was.at 40 rfl) fg_X5_194 ir_5_0 ?_
            refine a_iload_n (kX5_was.at 41 rfl) 1 rfl ?_
            refine a_iload (kX5_was.at 42 rfl) 4 rfl ?_
            refine a_iast (kX5_was.at 43 rfl) (ia_32) (by omega) ?_
            refine a_aload_n (kX5_was.at 44 rfl) 0 rfl ?_
            refine a_getR (kX5_was.at 45 rfl) fg_X5_33 ir_0_4 ?_
            refine AW.callV (as := []) (st := []) (kX5_was.at 46 rfl) ml_X5_162 sv_X1_run (k := 5) (io_5) rfl rfl ⟨Nat.le_of_ble_eq_true rfl, Nat.le_of_ble_eq_true rfl⟩ ⟨Nat.le_refl _, Nat.le_refl _⟩ rfl rfl (Nat.le_of_ble_eq_true rfl) (k_runT G (upm N2 32 k v) (upm (reads K).1 50 (3 * k) v) (LD_sort (LD_all hCN h hN2) k v hk) (IR_sort hI.1) (hI.2.at50 _ _)) (kV fun N3 hN3 => ?_)
            skip
            obtain ⟨s3, t3, r3, f3⟩ := hN3
            have hy4 : Fy M (upm N2 32 k v) := (hy.trans hN2.y).trans (fun c x a b d e => rd_ne (by omega))
            have hy5 : Fy M N3 := hy4.trans f3.y
            refine a_iload_n (kX5_was.at 47 rfl) 3 rfl ?_
            refine a_aload_n (kX5_was.at 48 rfl) 0 rfl ?_
            refine a_getR (kX5_was.at 49 rfl) fg_X5_33 ir_0_4 ?_
            refine a_aload_n (kX5_was.at 50 rfl) 0 rfl ?_
            refine a_getR (kX5_was.at 51 rfl) fg_X5_23 ir_0_2 ?_
            refine AW.callV (as := [vR 3]) (st := [vI b]) (kX5_was.at 52 rfl) ml_X5_189 sv_X1_showsAll (k := 5) (io_5) rfl rfl ⟨Nat.le_of_ble_eq_true rfl, Nat.le_of_ble_eq_true rfl⟩ ⟨Nat.le_refl _, Nat.le_refl _⟩ rfl rfl (Nat.le_of_ble_eq_true rfl) (k_shows G (upm N2 32 k v) N3 M K _ hC hy4 s3 t3 r3 f3 (reads_28 h) (reads_60 h)) (kIE ?_)
            refine a_ifeqB (tgt := 115) (kX5_was.at 53 rfl) (by decide) (fun h105 => ?_) (fun h105 => ?_)
            · refine a_iconst (kX5_was.at 58 rfl) rfl ?_
              refine a_ior (kX5_was.at 59 rfl) ?_
              refine a_istore_n (ls' := [(0, vR 0), (1, vI k), (2, vI w), (3, vI (iOr b 0)), (4, vI v)]) (kX5_was.at 60 rfl) (by decide) rfl ?_
              refine a_iinc (ls' := [(0, vR 0), (1, vI k), (2, vI w), (3, vI (iOr b 0)), (4, vI (v + 1))]) (kX5_was.at 61 rfl) 4 rfl (by decide) (inr (by omega)) rfl ?_
              refine a_goto (tgt := 24) (kX5_was.at 62 rfl) (by decide) ?_
              exact ih ((v + 1)) ((iOr b 0)) (N3) (by omega) (by omega) (by rw [forR_succ hk0, ← e_b] <;> (clear ih kk e_b; unfold soF; first | (rw [if_neg h105]) | (rw [if_pos (by omega)]))) (hy5) (by omega)
            · refine a_iconst (kX5_was.at 54 rfl) rfl ?_
              refine a_iload (kX5_was.at 55 rfl) 4 rfl ?_
              refine a_ishl (kX5_was.at 56 rfl) ?_
              refine a_goto (tgt := 116) (kX5_was.at 57 rfl) (by decide) ?_
              refine a_ior (kX5_was.at 59 rfl) ?_
              refine a_istore_n (ls' := [(0, vR 0), (1, vI k), (2, vI w), (3, vI (iOr b (iShl 1 v))), (4, vI v)]) (kX5_was.at 60 rfl) (by decide) rfl ?_
              refine a_iinc (ls' := [(0, vR 0), (1, vI k), (2, vI w), (3, vI (iOr b (iShl 1 v))), (4, vI (v + 1))]) (kX5_was.at 61 rfl) 4 rfl (by decide) (inr (by omega)) rfl ?_
              refine a_goto (tgt := 24) (kX5_was.at 62 rfl) (by decide) ?_
              exact ih ((v + 1)) ((iOr b (iShl 1 v))) (N3) (by omega) (by omega) (by rw [forR_succ hk0, ← e_b] <;> (clear ih kk e_b; unfold soF; first | (rw [if_neg h105]) | (rw [if_pos (by omega)]))) (hy5) (by omega)
          · exfalso; omega
      · exfalso; omega
  exact key ((3) - (0) + 1 : Int).toNat (0) 0 M (Int.le_refl _) hlohi (forR_nil (Int.le_refl _)).symm (Fy.refl M) (by omega)
theorem was_eq {K : Mem} (h : MB K) {k w : Int} : wasS (find K) k w = wasS (reads K).1 k w := by
  unfold wasS
  rw [thoughtS_E (rf_IE h) (reads_BI h).1 (reads_BI h).2, sortS_E (rf_IE h) (reads_BI h).1 (reads_BI h).2]
theorem k_was (G : GT) (M K : Mem) (k w : Int) (hC : Cp M K) (h : MB K) : AM G yX5_was cX5_was 5 (some .int) 4 M [vR 0, vI k, vI w] (pI fun r N => r = o_was K k w ∧ Fy M N) := by
  refine AM.mk (own := RX5) rfl sv_X5_was.1.2.2.2.2.2 (Nat.le_of_ble_eq_true rfl) rfl ?_
  have hI := CI_of hC h
  have ef := find_p K
  have hp := hI.1.1
  have e5 := hC.2.1.2.1
  by_cases hw : w = 0
  · skip
    refine a_aload_n (kX5_was.at 0 rfl) 0 rfl ?_
    refine a_iload_n (kX5_was.at 1 rfl) 1 rfl ?_
    refine AW.callV (as := [vI k]) (st := []) (kX5_was.at 2 rfl) ml_X5_70 sv_X5_isPerson (k := 0) (io_0) rfl rfl ⟨Nat.le_of_ble_eq_true rfl, Nat.le_of_ble_eq_true rfl⟩ ⟨Nat.le_refl _, Nat.le_refl _⟩ rfl rfl (Nat.le_of_ble_eq_true rfl) (k_isPerson G M k) (kIE ?_)
    refine a_ifeqB (tgt := 16) (kX5_was.at 3 rfl) (by decide) (fun h5 => ?_) (fun h5 => ?_)
    · refine a_bipush (kX5_was.at 8 rfl) rfl rfl ?_
      exact a_iret (kX5_was.at 9 rfl) (by unfold o_was; first | (rw [if_neg (by omega)]; exact ⟨rfl, Fy.refl M⟩) | (rw [if_pos (by omega), was_eq h]; unfold wasS; rw [if_pos hw]; exact ⟨rfl, hy⟩))
    · refine a_iload_n (kX5_was.at 4 rfl) 2 rfl ?_
      refine a_iconst (kX5_was.at 5 rfl) rfl ?_
      refine AW.callS (as := [vI w, vI 2]) (st := []) (kX5_was.at 6 rfl) ml_X5_74 ss_X5_isBelow ⟨Nat.le_of_ble_eq_true rfl, Nat.le_of_ble_eq_true rfl⟩ ⟨Nat.le_refl _, Nat.le_refl _⟩ rfl rfl (Nat.le_of_ble_eq_true rfl) (k_isBelow G M w 2) (kIE ?_)
      refine a_ifneB (tgt := 19) (kX5_was.at 7 rfl) (by decide) (fun h13 => ?_) (fun h13 => ?_)
      · refine a_iconst (kX5_was.at 10 rfl) rfl ?_
        refine a_istore_n (ls' := [(0, vR 0), (1, vI k), (2, vI w), (3, vI 0)]) (kX5_was.at 11 rfl) (by decide) rfl ?_
        refine a_iconst (kX5_was.at 12 rfl) rfl ?_
        refine a_istore (ls' := [(0, vR 0), (1, vI k), (2, vI w), (3, vI 0), (4, vI 0)]) (kX5_was.at 13 rfl) (by decide) rfl ?_
        refine l_kwas0 G M K k w _ hC h hI (by omega) hw (by omega) ?_
        intro N1 hy
        show AW _ _ _ _ _ _ 124 [(0, vR 0), (1, vI k), (2, vI w), (3, vI (thoughtS (reads K).1 k)), (4, vI 8)] [] N1
        refine a_iload_n (kX5_was.at 63 rfl) 3 rfl ?_
        exact a_iret (kX5_was.at 64 rfl) (by unfold o_was; first | (rw [if_neg (by omega)]; exact ⟨rfl, Fy.refl M⟩) | (rw [if_pos (by omega), was_eq h]; unfold wasS; rw [if_pos hw]; exact ⟨rfl, hy⟩))
      · refine a_bipush (kX5_was.at 8 rfl) rfl rfl ?_
        exact a_iret (kX5_was.at 9 rfl) (by unfold o_was; first | (rw [if_neg (by omega)]; exact ⟨rfl, Fy.refl M⟩) | (rw [if_pos (by omega), was_eq h]; unfold wasS; rw [if_pos hw]; exact ⟨rfl, hy⟩))
  · skip
    refine a_aload_n (kX5_was.at 0 rfl) 0 rfl ?_
    refine a_iload_n (kX5_was.at 1 rfl) 1 rfl ?_
    refine AW.callV (as := [vI k]) (st := []) (kX5_was.at 2 rfl) ml_X5_70 sv_X5_isPerson (k := 0) (io_0) rfl rfl ⟨Nat.le_of_ble_eq_true rfl, Nat.le_of_ble_eq_true rfl⟩ ⟨Nat.le_refl _, Nat.le_refl _⟩ rfl rfl (Nat.le_of_ble_eq_true rfl) (k_isPerson G M k) (kIE ?_)
    refine a_ifeqB (tgt := 16) (kX5_was.at 3 rfl) (by decide) (fun h5 => ?_) (fun h5 => ?_)
    · refine a_bipush (kX5_was.at 8 rfl) rfl rfl ?_
      exact a_iret (kX5_was.at 9 rfl) (by unfold o_was; first | (rw [if_neg (by omega)]; exact ⟨rfl, Fy.refl M⟩) | (rw [if_pos (by omega), was_eq h]; unfold wasS; rw [if_neg hw]; exact ⟨rfl, hy⟩))
    · refine a_iload_n (kX5_was.at 4 rfl) 2 rfl ?_
      refine a_iconst (kX5_was.at 5 rfl) rfl ?_
      refine AW.callS (as := [vI w, vI 2]) (st := []) (kX5_was.at 6 rfl) ml_X5_74 ss_X5_isBelow ⟨Nat.le_of_ble_eq_true rfl, Nat.le_of_ble_eq_true rfl⟩ ⟨Nat.le_refl _, Nat.le_refl _⟩ rfl rfl (Nat.le_of_ble_eq_true rfl) (k_isBelow G M w 2) (kIE ?_)
      refine a_ifneB (tgt := 19) (kX5_was.at 7 rfl) (by decide) (fun h13 => ?_) (fun h13 => ?_)
      · refine a_iconst (kX5_was.at 10 rfl) rfl ?_
        refine a_istore_n (ls' := [(0, vR 0), (1, vI k), (2, vI w), (3, vI 0)]) (kX5_was.at 11 rfl) (by decide) rfl ?_
        refine a_iconst (kX5_was.at 12 rfl) rfl ?_
        refine a_istore (ls' := [(0, vR 0), (1, vI k), (2, vI w), (3, vI 0), (4, vI 0)]) (kX5_was.at 13 rfl) (by decide) rfl ?_
        refine l_kwas1 G M K k w _ hC h hI (by omega) hw (by omega) ?_
        intro N1 hy
        show AW _ _ _ _ _ _ 124 [(0, vR 0), (1, vI k), (2, vI w), (3, vI (sortS (reads K).1 k)), (4, vI 3)] [] N1
        refine a_iload_n (kX5_was.at 63 rfl) 3 rfl ?_
        exact a_iret (kX5_was.at 64 rfl) (by unfold o_was; first | (rw [if_neg (by omega)]; exact ⟨rfl, Fy.refl M⟩) | (rw [if_pos (by omega), was_eq h]; unfold wasS; rw [if_neg hw]; exact ⟨rfl, hy⟩))
      · refine a_bipush (kX5_was.at 8 rfl) rfl rfl ?_
        exact a_iret (kX5_was.at 9 rfl) (by unfold o_was; first | (rw [if_neg (by omega)]; exact ⟨rfl, Fy.refl M⟩) | (rw [if_pos (by omega), was_eq h]; unfold wasS; rw [if_neg hw]; exact ⟨rfl, hy⟩))
