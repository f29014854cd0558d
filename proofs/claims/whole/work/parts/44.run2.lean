/-! ===== the class: sixteen quarters ===== -/
noncomputable def Fg (t : Nat) (M N : Mem) : Prop := ∀ (c : Nat) (j : Int), c ≠ 25 + 8 * t → c ≠ 26 + 8 * t → c ≠ 28 + 8 * t → c ≠ 29 + 8 * t → c ≠ 30 + 8 * t → c ≠ 31 + 8 * t → ¬ (c = 4 + t ∧ 9 ≤ j ∧ j ≤ 14) → N c j = M c j
theorem Fg.refl (t : Nat) (M : Mem) : Fg t M M := fun _ _ _ _ _ _ _ _ _ => rfl
theorem Fg.trans {t : Nat} {M N K : Mem} (h1 : Fg t M N) (h2 : Fg t N K) : Fg t M K := fun c j a b d e f g i => (h2 c j a b d e f g i).trans (h1 c j a b d e f g i)
theorem Fm.g {t : Nat} {M N : Mem} (h : Fm t M N) : Fg t M N := fun c j a b d e f _ g => h c j a b d e f g
theorem SC.ofN {N N' K : Mem} {t : Nat} (h : SC N t K) (e : ∀ (c : Nat) (x : Int), c ≠ 31 + 8 * t → N' c x = N c x) : SC N' t K := by
  obtain ⟨h1, h2, h3, h4, h5, h6⟩ := h
  refine ⟨by rw [e _ _ (by omega)]; exact h1, fun p a b => ?_, fun i a b => by rw [e _ _ (by omega)]; exact h3 i a b, ?_, by rw [e _ _ (by omega)]; exact h5, fun p a b => by rw [e _ _ (by omega)]; exact h6 p a b⟩
  · rw [e (24 + 8 * t) _ (by omega), e (25 + 8 * t) _ (by omega), e (26 + 8 * t) _ (by omega), e (28 + 8 * t) _ (by omega), e (29 + 8 * t) _ (by omega)]
    exact h2 p a b
  · rw [e (4 + t) 9 (by omega), e (4 + t) 10 (by omega), e (4 + t) 11 (by omega), e (4 + t) 12 (by omega), e (4 + t) 13 (by omega)]
    exact h4
theorem TR_step {N N' N4 K : Mem} {t : Nat} {q : Int} (hT : TR N t K q) (hq : 0 ≤ q ∧ q ≤ 15) (hp8 : 0 ≤ K 44 7 ∧ K 44 7 ≤ 8) (hS : SC N' t (pass4 K q)) (hR : SR (pass4 K q) (q + 1) 0 0) (hV : ∀ x, N4 (31 + 8 * t) x = if 8 * q ≤ x ∧ x < 8 * q + N' (4 + t) 8 then pkM N' t (x - 8 * q) else N' (31 + 8 * t) x) (e31 : ∀ x, N' (31 + 8 * t) x = N (31 + 8 * t) x) : TR N4 t (passes K q) (q + 1) := by
  have e7 : passes K q 44 7 = K 44 7 := (Fr_passes K q).people
  have e74 : pass4 K q 44 7 = K 44 7 := (Fr_pass4 K q).people
  have hb := (passes_by K q hp8.1).2
  intro x p a b c d
  rw [e7] at d
  have z0 := hb 0 (8 * x + p) (by omega)
  have z1 := hb 1 (8 * x + p) (by omega)
  have z2 := hb 2 (8 * x + p) (by omega)
  have z3 := hb 3 (8 * x + p) (by omega)
  rw [show passes K q 56 (8 * x + p) = _ from z0, show passes K q 57 (8 * x + p) = _ from z1, show passes K q 58 (8 * x + p) = _ from z2, show passes K q 59 (8 * x + p) = _ from z3, hV, hS.1, e74]
  by_cases e : x = q
  · subst e
    have e2 : 8 * x ≤ 8 * x + p ∧ 8 * x + p < 8 * x + K 44 7 := by omega
    rw [if_pos e2, if_pos e2, if_pos e2, if_pos e2, if_pos e2, show 8 * x + p - 8 * x = p by omega]
    have hs := hS.2.1 p c (by rw [e74]; exact d)
    have hr := hR.2.1 p c (by rw [e74]; exact d)
    rw [if_neg (by omega)] at hr
    unfold pkM
    rw [hs.2.1, hs.2.2.1, hs.2.2.2.1, hs.2.2.2.2]
    exact ⟨rfl, hr.1, hr.2.1, (show 0 ≤ pass4 K x 54 p ∧ pass4 K x 54 p ≤ 16 by omega), (show 0 ≤ pass4 K x 55 p ∧ pass4 K x 55 p ≤ 16 by omega)⟩
  · have e2 : ¬ (8 * q ≤ 8 * x + p ∧ 8 * x + p < 8 * q + K 44 7) := by omega
    rw [if_neg e2, if_neg e2, if_neg e2, if_neg e2, if_neg e2, e31]
    exact hT x p a (by omega) c d
theorem livesQ_0 (R : Mem) : livesQ R 0 = lives0 R := forR_nil (Int.le_refl _)
theorem livesQ_s (R : Mem) {q : Int} (hq : 0 ≤ q) : livesQ R (q + 1) = passes (livesQ R q) q := forR_succ hq
set_option maxHeartbeats 4000000 in
set_option maxRecDepth 100000 in
theorem l_run (G : GT) (M R : Mem) (t : Nat) (P : Option AV → Mem → Prop) (ht : t < 2) (hI : IR R) (hE : EV R) (hS0 : SC M t (lives0 R)) (hPl : ∀ q, 0 ≤ q → q ≤ 15 → M (27 + 8 * t) q = plW R q) (hlohi : (0 : Int) ≤ 16) (kk : ∀ (N : Mem), (SC N t (livesQ R 16)) → (SR (livesQ R 16) 16 0 0) → (TR N t (livesQ R 16) 16) → (Fg t M N) → AW G RX1 cX1_run 2 none (XM G 3 P) 54 [(0, vR (4 + t)), (1, vI 16)] [] N) : AW G RX1 cX1_run 2 none (XM G 3 P) 6 [(0, vR (4 + t)), (1, vI 0)] [] M := by
  have key : ∀ (nn : Nat) (q : Int)  (N : Mem), (0 : Int) ≤ q → q ≤ 16 → (SC N t (livesQ R q)) → (SR (livesQ R q) q 0 0) → (TR N t (livesQ R q) q) → (Fg t M N) → 16 - q < nn → AW G RX1 cX1_run 2 none (XM G 3 P) 6 [(0, vR (4 + t)), (1, vI q)] [] N := by
    intro nn
    induction nn with
    | zero => intro q N hk0 hk1  hS hR hT hF hn; omega
    | succ nn ih =>
      intro q N hk0 hk1  hS hR hT hF hn
      refine a_iload_n (kX1_run.at 4 rfl) 1 rfl ?_
      refine a_bipush (kX1_run.at 5 rfl) rfl rfl ?_
      refine a_icmpge (tgt := 54) (kX1_run.at 6 rfl) (by decide) (fun h9 => ?_) (fun h9 => ?_)
      · obtain rfl : q = 16 := by omega
        exact kk N hS hR hT hF
      · have hFr : Fr R (livesQ R q) := Fr_livesQ R q
        obtain ⟨K, eK⟩ : ∃ z : Mem, z = livesQ R q := ⟨_, rfl⟩
        rw [← eK] at hS hR hT hFr
        have hp8 := hR.1
        have ew : N (27 + 8 * t) q = plW K q := by rw [hF _ _ (by omega) (by omega) (by omega) (by omega) (by omega) (by omega) (by omega), hPl q (by omega) (by omega), plW_Fr hFr]
        have hG : CG K (pass2 K q) (N (27 + 8 * t) q) := by rw [ew]; exact CG_pass2 hR.vr (hE.Fr hFr) (by omega)
        have hR2 := SR_CG hR hG
        have p2 : pass2 K q 44 7 = K 44 7 := (Fr_pass2 K q).people
        have p3 : pass3 K q 44 7 = K 44 7 := (Fr_pass3 K q).people
        have p4 : pass4 K q 44 7 = K 44 7 := (Fr_pass4 K q).people
        have hR3 : SR (pass3 K q) q 0 (K 44 7) := (SR_comeAll hR2 (n := K 44 7) (by omega)).1
        refine a_aload_n (kX1_run.at 7 rfl) 0 rfl ?_
        refine a_aload_n (kX1_run.at 8 rfl) 0 rfl ?_
        refine a_getR (kX1_run.at 9 rfl) fg_X1_21 (iR_C3 ht) ?_
        refine a_iload_n (kX1_run.at 10 rfl) 1 rfl ?_
        refine a_iald (x := N (27 + 8 * t) q) (kX1_run.at 11 rfl) (iA_C3 ht) (by omega) (rfl) ?_
        refine AW.callV (as := [vI (N (27 + 8 * t) q)]) (st := []) (kX1_run.at 12 rfl) ml_X1_84 sv_X1_changeMinds (k := (4 + t)) (iO_C ht) rfl rfl ⟨Nat.le_of_ble_eq_true rfl, Nat.le_of_ble_eq_true rfl⟩ ⟨Nat.le_refl _, Nat.le_refl _⟩ rfl rfl (Nat.le_of_ble_eq_true rfl) (k_changeMinds G N K (pass2 K q) t (N (27 + 8 * t) q) ht hS hp8 hG) (kV fun N1 hN1 => ?_)
        skip
        refine a_aload_n (kX1_run.at 13 rfl) 0 rfl ?_
        refine AW.callV (as := []) (st := []) (kX1_run.at 14 rfl) ml_X1_88 sv_X1_comeRound (k := (4 + t)) (iO_C ht) rfl rfl ⟨Nat.le_of_ble_eq_true rfl, Nat.le_of_ble_eq_true rfl⟩ ⟨Nat.le_refl _, Nat.le_refl _⟩ rfl rfl (Nat.le_of_ble_eq_true rfl) (k_comeRound G N1 (pass2 K q) t q ht hN1.1 hR2 (by omega)) (kV fun N2 hN2 => ?_)
        skip
        have hF2 := hN1.2.trans hN2.2
        have hS2 : SC N2 t (pass3 K q) := by have z := hN2.1; rw [p2] at z; exact z
        have e27 : N2 (27 + 8 * t) q = N (27 + 8 * t) q := hF2 _ _ (by omega) (by omega) (by omega) (by omega) (by omega) (by omega)
        refine a_aload_n (kX1_run.at 15 rfl) 0 rfl ?_
        refine a_getR (kX1_run.at 16 rfl) fg_X1_21 (iR_C3 ht) ?_
        refine a_iload_n (kX1_run.at 17 rfl) 1 rfl ?_
        refine a_iald (x := N2 (27 + 8 * t) q) (kX1_run.at 18 rfl) (iA_C3 ht) (by omega) (rfl) ?_
        refine a_ldc (kX1_run.at 19 rfl) cn_X1_80 (16777216) rfl rfl ?_
        refine a_iand (kX1_run.at 20 rfl) ?_
        refine a_ifne (tgt := 43) (kX1_run.at 21 rfl) (by decide) (fun h35 => ?_) (fun h35 => ?_)
        · have hS4 : SC (N2) t (pass4 K q) := by first | (rw [ek]; have z := hN3.1; rw [p3] at z; exact z) | (rw [pass4_hol (by rw [pass3_23]; exact fun z => h35 (by rw [e27]; exact hG.2.1.mp z))]; exact hS2)
          have hR4 : SR (pass4 K q) (q + 1) 0 0 := by first | (rw [ek]; exact (SR_knockAll hR3 (by omega) (n := K 44 7) (by omega)).1.next (by omega)) | (rw [pass4_hol (by rw [pass3_23]; exact fun z => h35 (by rw [e27]; exact hG.2.1.mp z))]; exact hR3.next (by omega))
          have hF4 : Fm t N (N2) := by first | exact hF2 | exact hF2.trans hN3.2
          have h48 := hS4.1
          refine a_aload_n (kX1_run.at 25 rfl) 0 rfl ?_
          refine a_iload_n (kX1_run.at 26 rfl) 1 rfl ?_
          refine AW.callV (as := [vI q]) (st := []) (kX1_run.at 27 rfl) ml_X1_94 sv_X1_keep (k := (4 + t)) (iO_C ht) rfl rfl ⟨Nat.le_of_ble_eq_true rfl, Nat.le_of_ble_eq_true rfl⟩ ⟨Nat.le_refl _, Nat.le_refl _⟩ rfl rfl (Nat.le_of_ble_eq_true rfl) (k_keep G N2 t q ht (by omega) (by omega)) (kV fun N4 hN4 => ?_)
          skip
          have stp : SC N4 t (passes K q) := (hS4.ofN hN4.2).of (passes_by K q hp8.1).1
          have rst : SR (passes K q) (q + 1) 0 0 := hR4.of (passes_by K q hp8.1).1
          have tst : TR N4 t (passes K q) (q + 1) := TR_step hT (by omega) hp8 hS4 hR4 hN4.1 (fun x => hF4 _ _ (by omega) (by omega) (by omega) (by omega) (by omega) (by omega))
          have fstp : Fg t M N4 := hF.trans (hF4.g.trans (fun c j a b d e f g i => hN4.2 c j g))
          refine a_iinc (ls' := [(0, vR (4 + t)), (1, vI (q + 1))]) (kX1_run.at 28 rfl) 1 rfl (by decide) (inr (by omega)) rfl ?_
          refine a_goto (tgt := 6) (kX1_run.at 29 rfl) (by decide) ?_
          exact ih ((q + 1)) (N4) (by omega) (by omega) (by rw [livesQ_s R hk0, ← eK]; exact stp) (by rw [livesQ_s R hk0, ← eK]; exact rst) (by rw [livesQ_s R hk0, ← eK]; exact tst) (fstp) (by omega)
        · have h23 : pass3 K q 44 23 = 0 := by rw [pass3_23]; exact hG.2.1.mpr (by rw [← e27]; exact h35)
          have ek := pass4_kn h23
          refine a_aload_n (kX1_run.at 22 rfl) 0 rfl ?_
          refine a_iload_n (kX1_run.at 23 rfl) 1 rfl ?_
          refine AW.callV (as := [vI q]) (st := []) (kX1_run.at 24 rfl) ml_X1_91 sv_X1_knock (k := (4 + t)) (iO_C ht) rfl rfl ⟨Nat.le_of_ble_eq_true rfl, Nat.le_of_ble_eq_true rfl⟩ ⟨Nat.le_refl _, Nat.le_refl _⟩ rfl rfl (Nat.le_of_ble_eq_true rfl) (k_knock G N2 (pass3 K q) t q (K 44 7) ht hS2 hR3 (by omega)) (kV fun N3 hN3 => ?_)
          skip
          have hS4 : SC (N3) t (pass4 K q) := by first | (rw [ek]; have z := hN3.1; rw [p3] at z; exact z) | (rw [pass4_hol (by rw [pass3_23]; exact fun z => h35 (by rw [e27]; exact hG.2.1.mp z))]; exact hS2)
          have hR4 : SR (pass4 K q) (q + 1) 0 0 := by first | (rw [ek]; exact (SR_knockAll hR3 (by omega) (n := K 44 7) (by omega)).1.next (by omega)) | (rw [pass4_hol (by rw [pass3_23]; exact fun z => h35 (by rw [e27]; exact hG.2.1.mp z))]; exact hR3.next (by omega))
          have hF4 : Fm t N (N3) := by first | exact hF2 | exact hF2.trans hN3.2
          have h48 := hS4.1
          refine a_aload_n (kX1_run.at 25 rfl) 0 rfl ?_
          refine a_iload_n (kX1_run.at 26 rfl) 1 rfl ?_
          refine AW.callV (as := [vI q]) (st := []) (kX1_run.at 27 rfl) ml_X1_94 sv_X1_keep (k := (4 + t)) (iO_C ht) rfl rfl ⟨Nat.le_of_ble_eq_true rfl, Nat.le_of_ble_eq_true rfl⟩ ⟨Nat.le_refl _, Nat.le_refl _⟩ rfl rfl (Nat.le_of_ble_eq_true rfl) (k_keep G N3 t q ht (by omega) (by omega)) (kV fun N4 hN4 => ?_)
          skip
          have stp : SC N4 t (passes K q) := (hS4.ofN hN4.2).of (passes_by K q hp8.1).1
          have rst : SR (passes K q) (q + 1) 0 0 := hR4.of (passes_by K q hp8.1).1
          have tst : TR N4 t (passes K q) (q + 1) := TR_step hT (by omega) hp8 hS4 hR4 hN4.1 (fun x => hF4 _ _ (by omega) (by omega) (by omega) (by omega) (by omega) (by omega))
          have fstp : Fg t M N4 := hF.trans (hF4.g.trans (fun c j a b d e f g i => hN4.2 c j g))
          refine a_iinc (ls' := [(0, vR (4 + t)), (1, vI (q + 1))]) (kX1_run.at 28 rfl) 1 rfl (by decide) (inr (by omega)) rfl ?_
          refine a_goto (tgt := 6) (kX1_run.at 29 rfl) (by decide) ?_
          exact ih ((q + 1)) (N4) (by omega) (by omega) (by rw [livesQ_s R hk0, ← eK]; exact stp) (by rw [livesQ_s R hk0, ← eK]; exact rst) (by rw [livesQ_s R hk0, ← eK]; exact tst) (fstp) (by omega)
  exact key ((16) - (0) + 1 : Int).toNat (0) M (Int.le_refl _) hlohi  (by rw [livesQ_0]; exact hS0) (by rw [livesQ_0]; exact SR_lives0 hI) (fun x p a b => by omega) (Fg.refl t M) (by omega)
theorem k_run (G : GT) (M R : Mem) (t : Nat) (ht : t < 2) (hL : LD M t R) (hI : IR R) (hE : EV R) : AM G yX1_run cX1_run 2 none 3 M [vR (4 + t)] (pV fun N => SC N t (lives R) ∧ TR N t (lives R) 16 ∧ SR (lives R) 16 0 0 ∧ Fg t M N) := by
  refine AM.mk (own := RX1) rfl sv_X1_run.1.2.2.2.2.2 (Nat.le_of_ble_eq_true rfl) rfl ?_
  refine a_aload_n (kX1_run.at 0 rfl) 0 rfl ?_
  refine AW.callV (as := []) (st := []) (kX1_run.at 1 rfl) ml_X1_81 sv_X1_begin (k := (4 + t)) (iO_C ht) rfl rfl ⟨Nat.le_of_ble_eq_true rfl, Nat.le_of_ble_eq_true rfl⟩ ⟨Nat.le_refl _, Nat.le_refl _⟩ rfl rfl (Nat.le_of_ble_eq_true rfl) (k_begin G M R t ht hL hI) (kV fun N0 hN0 => ?_)
  skip
  have hPl : ∀ q, 0 ≤ q → q ≤ 15 → N0 (27 + 8 * t) q = plW R q := fun q a b => by rw [hN0.2 _ _ (by omega) (by omega) (by omega) (by omega) (by omega) (by omega)]; exact hL.2.2 q a b
  refine a_iconst (kX1_run.at 2 rfl) rfl ?_
  refine a_istore_n (ls' := [(0, vR (4 + t)), (1, vI 0)]) (kX1_run.at 3 rfl) (by decide) rfl ?_
  refine l_run G N0 R t _ ht hI hE hN0.1 hPl (by omega) ?_
  intro N1 hS hR hT hF
  show AW _ _ _ _ _ _ 54 [(0, vR (4 + t)), (1, vI 16)] [] N1
  exact a_vret (kX1_run.at 30 rfl) (by rw [lives_eq]; exact ⟨hS, hT, hR, hN0.2.g.trans hF⟩)
