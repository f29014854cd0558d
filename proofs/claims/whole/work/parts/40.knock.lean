/-! ===== the class: knocking ===== -/
theorem isIn_or1 {m p x : Int} (hm : 0 ≤ m ∧ m < 256) (hp : 0 ≤ p ∧ p ≤ 7) (hx : 0 ≤ x ∧ x ≤ 7) : (isIn (iOr m (iShl 1 p)) x = true ↔ isIn m x = true ∨ x = p) ∧ 0 ≤ iOr m (iShl 1 p) ∧ iOr m (iShl 1 p) < 256 := by
  have e : (2 : Int) ^ 8 = 256 := by decide
  have hr := iOr_lt (n := 8) (by decide) (show 0 ≤ m ∧ m < 2 ^ 8 by omega) (shl1_r (k := p) (by omega))
  refine ⟨?_, by omega⟩
  obtain ⟨m', rfl⟩ := nat_of hm.1
  obtain ⟨p', rfl⟩ := nat_of hp.1
  obtain ⟨x', rfl⟩ := nat_of hx.1
  have h0 : 2 ^ p' < 33554432 := Nat.lt_of_le_of_lt (Nat.pow_le_pow_right (by decide) (show p' ≤ 24 by omega)) (by decide)
  have ho : m' ||| 2 ^ p' < 2 ^ 25 := Nat.or_lt_two_pow (by omega) (by omega)
  have e25 : (2 : Nat) ^ 25 = 33554432 := by decide
  rw [shl1 (by omega), iOr_nat (by omega) (by omega), isIn_nat (by omega) (by omega), isIn_nat (by omega) (by omega), Nat.testBit_or, Nat.testBit_two_pow]
  simp only [Bool.or_eq_true, decide_eq_true_eq]
  exact or_congr Iff.rfl (by omega)
noncomputable def knN (N N1 : Mem) (t : Nat) (p b : Int) : Mem := upm (upm (upm (upm (upm (upm (upm N1 (4 + t) 9 (N (4 + t) 9 + 1)) (28 + 8 * t) p (N (28 + 8 * t) p + 1)) (4 + t) 14 (iOr (N (4 + t) 14) (iShl 1 p))) (4 + t) 11 (N (4 + t) 11 + absI (b - N (26 + 8 * t) p))) (30 + 8 * t) (N (26 + 8 * t) p + 1) (-1)) (30 + 8 * t) (b + 1) p) (26 + 8 * t) p b
theorem knN_r (N N1 : Mem) {t : Nat} (ht : t < 2) (p b : Int) : (∀ x, knN N N1 t p b (24 + 8 * t) x = N1 (24 + 8 * t) x) ∧ (∀ x, knN N N1 t p b (25 + 8 * t) x = N1 (25 + 8 * t) x) ∧ (∀ x, knN N N1 t p b (29 + 8 * t) x = N1 (29 + 8 * t) x) ∧ (∀ x, knN N N1 t p b (26 + 8 * t) x = if x = p then b else N1 (26 + 8 * t) x) ∧ (∀ x, knN N N1 t p b (28 + 8 * t) x = if x = p then N (28 + 8 * t) p + 1 else N1 (28 + 8 * t) x) ∧ (∀ x, knN N N1 t p b (30 + 8 * t) x = if x = b + 1 then p else if x = N (26 + 8 * t) p + 1 then -1 else N1 (30 + 8 * t) x) ∧ (knN N N1 t p b (4 + t) 8 = N1 (4 + t) 8 ∧ knN N N1 t p b (4 + t) 9 = N (4 + t) 9 + 1 ∧ knN N N1 t p b (4 + t) 10 = N1 (4 + t) 10 ∧ knN N N1 t p b (4 + t) 11 = N (4 + t) 11 + absI (b - N (26 + 8 * t) p) ∧ knN N N1 t p b (4 + t) 12 = N1 (4 + t) 12 ∧ knN N N1 t p b (4 + t) 13 = N1 (4 + t) 13 ∧ knN N N1 t p b (4 + t) 14 = iOr (N (4 + t) 14) (iShl 1 p)) := by
  rcases (show t = 0 ∨ t = 1 by omega) with rfl | rfl <;> exact ⟨fun _ => rfl, fun _ => rfl, fun _ => rfl, fun _ => rfl, fun _ => rfl, fun _ => rfl, rfl, rfl, rfl, rfl, rfl, rfl, rfl⟩
theorem abs_apart (a b : Int) : absI (a - b) = apart a b := by
  unfold absI apart
  split <;> split <;> omega
theorem absI_r {x : Int} (h : -100 ≤ x ∧ x ≤ 100) : 0 ≤ absI x ∧ absI x ≤ 100 := by
  unfold absI
  split <;> omega
theorem SC_knock {N N1 K : Mem} {t : Nat} {q i j p b : Int} (ht : t < 2) (hS : SC N t K) (hR : SR K q p j) (hq : 0 ≤ q) (hp : 0 ≤ p ∧ p < K 44 7) (hd : isDead K p (K 52 p) = true) (hb : best K p = b) (hb1 : b ≠ -1) (f : ∀ (c : Nat) (x : Int), ¬ (c = 4 + t ∧ (x = 12 ∨ x = 13)) → N1 c x = N c x) (e12 : N1 (4 + t) 12 = if K 44 26 = -1 then q else K 44 26) (e13 : N1 (4 + t) 13 = if K 44 26 = -1 then p else K 44 27) : SC (knN N N1 t p b) t (knocks K q p) := by
  have hk := SR_knocks hR hq hp
  have hk2 := hk.2 (by rw [hb]; exact hb1) hd
  have hb9 := ((best_all K p).resolve_left (fun z => hb1 (by rw [← hb]; exact z.1))).1
  rw [hb] at hk2 hb9
  have ek : knocks K q p = knocksX K q p b := by
    unfold knocks
    rw [if_pos hd, hb, if_neg hb1]
  rw [ek] at hk2 ⊢
  obtain ⟨h1, h2, h3, h4, h5, h6⟩ := hS
  obtain ⟨r24, r25, r29, r26, r28, r30, r8, r9, r10, r11, r12, r13, r14⟩ := knN_r N N1 ht p b
  have hpp := h2 p hp.1 hp.2
  have hR1 := hR.1
  refine ⟨?_, fun x a c => ?_, fun x a c => ?_, ⟨?_, ?_, ?_, ?_, ?_⟩, ?_, fun x a c => ?_⟩
  · rw [r8, f _ _ (by omega)]
    exact h1
  · have hx := h2 x a c
    refine ⟨by rw [r24, f _ _ (by omega)]; exact hx.1, by rw [r25, f _ _ (by omega)]; exact hx.2.1, ?_, ?_, by rw [r29, f _ _ (by omega)]; exact hx.2.2.2.2⟩
    · rw [r26, f _ _ (by omega), hx.2.2.1]
      rfl
    · rw [r28, f _ _ (by omega), hx.2.2.2.1, hpp.2.2.2.1]
      rfl
  · rw [r30, f _ _ (by omega), hk2.2, h3 x a c, hpp.2.2.1]
    by_cases e1 : x = b + 1
    · rw [if_pos e1, if_pos (show x - 1 = b by omega)]
    · rw [if_neg e1, if_neg (show ¬ x - 1 = b by omega)]
      by_cases e2 : x = K 52 p + 1
      · rw [if_pos e2, if_pos (show x - 1 = K 52 p by omega)]
      · rw [if_neg e2, if_neg (show ¬ x - 1 = K 52 p by omega)]
  · rw [r9, hk2.1, h4.1]
  · rw [r10, f _ _ (by omega)]
    exact h4.2.1
  · rw [r11, abs_apart, hpp.2.2.1, h4.2.2.1]
    rfl
  · rw [r12, e12]
    rfl
  · rw [r13, e13]
    rfl
  · rw [r14]
    exact (isIn_or1 h5 (p := p) (x := 0) (by omega) (by omega)).2
  · rw [r14, (isIn_or1 h5 (p := p) (x := x) (by omega) (by omega)).1, h6 x a c]
    show _ ↔ x < K 44 7 ∧ 0 < (if x = p then K 54 p + 1 else K 54 x)
    have h54 := (hR.2.1 p hp.1 hp.2).2.2.1
    by_cases e : x = p
    · rw [if_pos e]
      omega
    · rw [if_neg e]
      omega
theorem SC_trag {N K : Mem} {t : Nat} {q p : Int} (ht : t < 2) (hS : SC N t K) (hd : isDead K p (K 52 p) = true) (hb : best K p = -1) : SC (upm N (4 + t) 10 (N (4 + t) 10 + 1)) t (knocks K q p) := by
  have ek : knocks K q p = upm K 44 24 (K 44 24 + 1) := by
    unfold knocks
    rw [if_pos hd, if_pos hb]
  rw [ek]
  obtain ⟨h1, h2, h3, h4, h5, h6⟩ := hS
  rcases (show t = 0 ∨ t = 1 by omega) with rfl | rfl
  · exact ⟨h1, h2, h3, ⟨h4.1, congrArg (· + 1) h4.2.1, h4.2.2.1, h4.2.2.2.1, h4.2.2.2.2⟩, h5, h6⟩
  · exact ⟨h1, h2, h3, ⟨h4.1, congrArg (· + 1) h4.2.1, h4.2.2.1, h4.2.2.2.1, h4.2.2.2.2⟩, h5, h6⟩
theorem knock_no {K : Mem} {q p : Int} (h : ¬ isDead K p (K 52 p) = true) : knocks K q p = K := by
  unfold knocks
  rw [if_neg h]
set_option maxHeartbeats 4000000 in
set_option maxRecDepth 100000 in
theorem l_knock (G : GT) (M K : Mem) (t : Nat) (q n : Int) (P : Option AV → Mem → Prop) (ht : t < 2) (hS0 : SC M t K) (hR0 : SR K q 0 n) (hq : 0 ≤ q ∧ q ≤ 15) (hlohi : (0 : Int) ≤ (K 44 7)) (kk : ∀ (N : Mem), (SC N t (forR 0 (K 44 7) (fun k N => knocks N q k) K)) → (Fm t M N) → AW G RX1 cX1_knock 4 none (XM G 2 P) 156 [(0, vR (4 + t)), (1, vI q), (2, vI (K 44 7))] [] N) : AW G RX1 cX1_knock 4 none (XM G 2 P) 2 [(0, vR (4 + t)), (1, vI q), (2, vI 0)] [] M := by
  have key : ∀ (nn : Nat) (j : Int)  (N : Mem), (0 : Int) ≤ j → j ≤ (K 44 7) → (SC N t (forR 0 j (fun k N => knocks N q k) K)) → (Fm t M N) → (K 44 7) - j < nn → AW G RX1 cX1_knock 4 none (XM G 2 P) 2 [(0, vR (4 + t)), (1, vI q), (2, vI j)] [] N := by
    intro nn
    induction nn with
    | zero => intro j N hk0 hk1  hS hF hn; omega
    | succ nn ih =>
      intro j N hk0 hk1  hS hF hn
      have hRa := SR_knockAll hR0 hq.1 ⟨hk0, hk1⟩
      have e7 := hRa.2.people
      have e8 := hS.1
      refine a_iload_n (kX1_knock.at 2 rfl) 2 rfl ?_
      refine a_aload_n (kX1_knock.at 3 rfl) 0 rfl ?_
      refine a_getI (x := N (4 + t) 8) (kX1_knock.at 4 rfl) fg_X1_48 (iI_C8 ht) (rfl) ?_
      refine a_icmpge (tgt := 156) (kX1_knock.at 5 rfl) (by decide) (fun h7 => ?_) (fun h7 => ?_)
      · obtain rfl : j = K 44 7 := by omega
        exact kk N hS hF
      · obtain ⟨Kj, eK⟩ : ∃ z : Mem, z = forR 0 j (fun k N => knocks N q k) K := ⟨_, rfl⟩
        rw [← eK] at hS hRa e7 e8
        have hR := hRa.1
        have hp8 := hR.1
        have hj : 0 ≤ j ∧ j < Kj 44 7 := by omega
        have sj := hS.2.1 j hj.1 hj.2
        have rj := hR.2.1 j hj.1 hj.2
        have hb := best_all Kj j
        have hb9 : -1 ≤ best Kj j ∧ best Kj j < 10 := by omega
        have h4 := hS.2.2.2.1
        have hlim := hR.2.2.2.2
        have up2 : ∀ (c : Nat) (x : Int), ¬ (c = 4 + t ∧ (x = 12 ∨ x = 13)) → upm (upm N (4 + t) 12 q) (4 + t) 13 j c x = N c x := fun c x z => by
          by_cases e : c = 4 + t
          · rw [e, rd_ni (by omega), rd_ni (by omega)]
          · rw [rd_ne e, rd_ne e]
        refine a_aload_n (kX1_knock.at 6 rfl) 0 rfl ?_
        refine a_iload_n (kX1_knock.at 7 rfl) 2 rfl ?_
        refine a_aload_n (kX1_knock.at 8 rfl) 0 rfl ?_
        refine a_getR (kX1_knock.at 9 rfl) fg_X1_18 (iR_C2 ht) ?_
        refine a_iload_n (kX1_knock.at 10 rfl) 2 rfl ?_
        refine a_iald (x := N (26 + 8 * t) j) (kX1_knock.at 11 rfl) (iA_C2 ht) (by omega) (rfl) ?_
        refine AW.callV (as := [vI j, vI (N (26 + 8 * t) j)]) (st := []) (kX1_knock.at 12 rfl) ml_X1_113 sv_X1_wouldAgree (k := (4 + t)) (iO_C ht) rfl rfl ⟨Nat.le_of_ble_eq_true rfl, Nat.le_of_ble_eq_true rfl⟩ ⟨Nat.le_refl _, Nat.le_refl _⟩ rfl rfl (Nat.le_of_ble_eq_true rfl) (k_wouldAgree G N Kj t j (N (26 + 8 * t) j) ht hS hp8 hj (by omega)) (kIE ?_)
        refine a_ifneB (tgt := 27) (kX1_knock.at 13 rfl) (by decide) (fun h21 => ?_) (fun h21 => ?_)
        · refine a_aload_n (kX1_knock.at 15 rfl) 0 rfl ?_
          refine a_iload_n (kX1_knock.at 16 rfl) 2 rfl ?_
          refine AW.callV (as := [vI j]) (st := []) (kX1_knock.at 17 rfl) ml_X1_116 sv_X1_refuge (k := (4 + t)) (iO_C ht) rfl rfl ⟨Nat.le_of_ble_eq_true rfl, Nat.le_of_ble_eq_true rfl⟩ ⟨Nat.le_refl _, Nat.le_refl _⟩ rfl rfl (Nat.le_of_ble_eq_true rfl) (k_refuge G N Kj t j ht hS hp8 hR.2.2.1 hj rj.1) (kIE ?_)
          refine a_istore_n (ls' := [(0, vR (4 + t)), (1, vI q), (2, vI j), (3, vI (best Kj j))]) (kX1_knock.at 18 rfl) (by decide) rfl ?_
          refine a_iload_n (kX1_knock.at 19 rfl) 3 rfl ?_
          refine a_iconst (kX1_knock.at 20 rfl) rfl ?_
          refine a_icmpne (tgt := 51) (kX1_knock.at 21 rfl) (by decide) (fun h35 => ?_) (fun h35 => ?_)
          · refine a_aload_n (kX1_knock.at 29 rfl) 0 rfl ?_
            refine a_getI (x := N (4 + t) 9) (kX1_knock.at 30 rfl) fg_X1_97 (iI_C9 ht) (rfl) ?_
            refine a_ifne (tgt := 68) (kX1_knock.at 31 rfl) (by decide) (fun h55 => ?_) (fun h55 => ?_)
            · refine a_aload_n (kX1_knock.at 38 rfl) 0 rfl ?_
              refine a_dup (kX1_knock.at 39 rfl) rfl ?_
              refine a_getI (x := N (4 + t) 9) (kX1_knock.at 40 rfl) fg_X1_97 (iI_C9 ht) (rfl) ?_
              refine a_iconst (kX1_knock.at 41 rfl) rfl ?_
              refine a_iadd (kX1_knock.at 42 rfl) (inr (by omega)) ?_
              refine a_putI (j := 9) (kX1_knock.at 43 rfl) fp_X1_97 (iI_C9 ht) rfl ?_
              refine a_aload_n (kX1_knock.at 44 rfl) 0 rfl ?_
              refine a_getR (kX1_knock.at 45 rfl) fg_X1_24 (iR_C4 ht) ?_
              refine a_iload_n (kX1_knock.at 46 rfl) 2 rfl ?_
              refine a_dup2 (kX1_knock.at 47 rfl) rfl rfl ?_
              refine a_iald (x := N (28 + 8 * t) j) (kX1_knock.at 48 rfl) (iA_C4 ht) (by omega) (rd_ne (by omega)) ?_
              refine a_iconst (kX1_knock.at 49 rfl) rfl ?_
              refine a_iadd (kX1_knock.at 50 rfl) (inr (by omega)) ?_
              refine a_iast (kX1_knock.at 51 rfl) (iA_C4 ht) (by omega) ?_
              refine a_aload_n (kX1_knock.at 52 rfl) 0 rfl ?_
              refine a_dup (kX1_knock.at 53 rfl) rfl ?_
              refine a_getI (x := N (4 + t) 14) (kX1_knock.at 54 rfl) fg_X1_106 (iI_C14 ht) ((rd_ne (by omega)).trans (rd_ni (by decide))) ?_
              refine a_iconst (kX1_knock.at 55 rfl) rfl ?_
              refine a_iload_n (kX1_knock.at 56 rfl) 2 rfl ?_
              refine a_ishl (kX1_knock.at 57 rfl) ?_
              refine a_ior (kX1_knock.at 58 rfl) ?_
              refine a_putI (j := 14) (kX1_knock.at 59 rfl) fp_X1_106 (iI_C14 ht) rfl ?_
              refine a_aload_n (kX1_knock.at 60 rfl) 0 rfl ?_
              refine a_dup (kX1_knock.at 61 rfl) rfl ?_
              refine a_getI (x := N (4 + t) 11) (kX1_knock.at 62 rfl) fg_X1_103 (iI_C11 ht) ((rd_ni (by decide)).trans ((rd_ne (by omega)).trans (rd_ni (by decide)))) ?_
              refine a_iload_n (kX1_knock.at 63 rfl) 3 rfl ?_
              refine a_aload_n (kX1_knock.at 64 rfl) 0 rfl ?_
              refine a_getR (kX1_knock.at 65 rfl) fg_X1_18 (iR_C2 ht) ?_
              refine a_iload_n (kX1_knock.at 66 rfl) 2 rfl ?_
              refine a_iald (x := N (26 + 8 * t) j) (kX1_knock.at 67 rfl) (iA_C2 ht) (by omega) ((rd_ne (by omega)).trans ((rd_ne (by omega)).trans (rd_ne (by omega)))) ?_
              refine a_isub (kX1_knock.at 68 rfl) (inr (by omega)) ?_
              refine a_abs (kX1_knock.at 69 rfl) ml_X1_120 ⟨Nat.le_of_ble_eq_true rfl, Nat.le_of_ble_eq_true rfl⟩ ⟨Nat.le_refl _, Nat.le_refl _⟩ (by omega) ?_
              have hab := absI_r (x := best Kj j - N (26 + 8 * t) j) (by omega)
              refine a_iadd (kX1_knock.at 70 rfl) (inr (by omega)) ?_
              refine a_putI (j := 11) (kX1_knock.at 71 rfl) fp_X1_103 (iI_C11 ht) rfl ?_
              refine a_aload_n (kX1_knock.at 72 rfl) 0 rfl ?_
              refine a_getR (kX1_knock.at 73 rfl) fg_X1_30 (iR_C6 ht) ?_
              refine a_aload_n (kX1_knock.at 74 rfl) 0 rfl ?_
              refine a_getR (kX1_knock.at 75 rfl) fg_X1_18 (iR_C2 ht) ?_
              refine a_iload_n (kX1_knock.at 76 rfl) 2 rfl ?_
              refine a_iald (x := N (26 + 8 * t) j) (kX1_knock.at 77 rfl) (iA_C2 ht) (by omega) ((rd_ne (by omega)).trans ((rd_ne (by omega)).trans ((rd_ne (by omega)).trans (rd_ne (by omega))))) ?_
              refine a_iconst (kX1_knock.at 78 rfl) rfl ?_
              refine a_iadd (kX1_knock.at 79 rfl) (inr (by omega)) ?_
              refine a_iconst (kX1_knock.at 80 rfl) rfl ?_
              refine a_iast (kX1_knock.at 81 rfl) (iA_C6 ht) (by omega) ?_
              refine a_aload_n (kX1_knock.at 82 rfl) 0 rfl ?_
              refine a_getR (kX1_knock.at 83 rfl) fg_X1_30 (iR_C6 ht) ?_
              refine a_iload_n (kX1_knock.at 84 rfl) 3 rfl ?_
              refine a_iconst (kX1_knock.at 85 rfl) rfl ?_
              refine a_iadd (kX1_knock.at 86 rfl) (inr (by omega)) ?_
              refine a_iload_n (kX1_knock.at 87 rfl) 2 rfl ?_
              refine a_iast (kX1_knock.at 88 rfl) (iA_C6 ht) (by omega) ?_
              refine a_aload_n (kX1_knock.at 89 rfl) 0 rfl ?_
              refine a_getR (kX1_knock.at 90 rfl) fg_X1_18 (iR_C2 ht) ?_
              refine a_iload_n (kX1_knock.at 91 rfl) 2 rfl ?_
              refine a_iload_n (kX1_knock.at 92 rfl) 3 rfl ?_
              refine a_iast (kX1_knock.at 93 rfl) (iA_C2 ht) (by omega) ?_
              have stp : SC ((upm (upm (upm (upm (upm (upm (upm N (4 + t) 9 ((N (4 + t) 9) + 1)) (28 + 8 * t) j ((N (28 + 8 * t) j) + 1)) (4 + t) 14 (iOr (N (4 + t) 14) (iShl 1 j))) (4 + t) 11 ((N (4 + t) 11) + (absI ((best Kj j) - (N (26 + 8 * t) j))))) (30 + 8 * t) ((N (26 + 8 * t) j) + 1) (-1)) (30 + 8 * t) ((best Kj j) + 1) j) (26 + 8 * t) j (best Kj j))) t (knocks Kj q j) := by first | exact stp0 | (have hA' := hA; have z := SC_knock (N1 := upm (upm N (4 + t) 12 q) (4 + t) 13 j) (i := 0) ht hS hR hq.1 hj (by rw [← sj.2.2.1]; exact h21) rfl h35 (fun c x z => up2 c x z) (by rw [if_pos hA, rd_ni (by decide), rd_eq]) (by rw [if_pos hA, rd_eq]); unfold knN at z; exact z) | (have hB : ¬ Kj 44 26 = -1 := fun z => h55 (by rw [h4.1]; exact hR.2.2.2.1.mp z); have z := SC_knock (N1 := N) (i := 0) ht hS hR hq.1 hj (by rw [← sj.2.2.1]; exact h21) rfl h35 (fun _ _ _ => rfl) (by rw [if_neg hB]; exact h4.2.2.2.1) (by rw [if_neg hB]; exact h4.2.2.2.2); unfold knN at z; exact z)
              have fstp : Fm t M ((upm (upm (upm (upm (upm (upm (upm N (4 + t) 9 ((N (4 + t) 9) + 1)) (28 + 8 * t) j ((N (28 + 8 * t) j) + 1)) (4 + t) 14 (iOr (N (4 + t) 14) (iShl 1 j))) (4 + t) 11 ((N (4 + t) 11) + (absI ((best Kj j) - (N (26 + 8 * t) j))))) (30 + 8 * t) ((N (26 + 8 * t) j) + 1) (-1)) (30 + 8 * t) ((best Kj j) + 1) j) (26 + 8 * t) j (best Kj j))) := by first | exact fst0 | (have hA' := hA; exact ((((((((hF.up (by omega)).up (by omega)).up (by omega)).up (by omega)).up (by omega)).up (by omega)).up (by omega)).up (by omega)).up (by omega)) | exact ((((((hF.up (by omega)).up (by omega)).up (by omega)).up (by omega)).up (by omega)).up (by omega)).up (by omega)
              refine a_iinc (ls' := [(0, vR (4 + t)), (1, vI q), (2, vI (j + 1)), (3, vI (best Kj j))]) (kX1_knock.at 94 rfl) 2 rfl (by decide) (inr (by omega)) rfl ?_
              refine a_goto (tgt := 2) (kX1_knock.at 95 rfl) (by decide) ?_
              refine AW.loc (ls' := [(0, vR (4 + t)), (1, vI q), (2, vI (j + 1))]) [0, 1, 2] rfl ?_
              exact ih ((j + 1)) ((upm (upm (upm (upm (upm (upm (upm N (4 + t) 9 ((N (4 + t) 9) + 1)) (28 + 8 * t) j ((N (28 + 8 * t) j) + 1)) (4 + t) 14 (iOr (N (4 + t) 14) (iShl 1 j))) (4 + t) 11 ((N (4 + t) 11) + (absI ((best Kj j) - (N (26 + 8 * t) j))))) (30 + 8 * t) ((N (26 + 8 * t) j) + 1) (-1)) (30 + 8 * t) ((best Kj j) + 1) j) (26 + 8 * t) j (best Kj j))) (by omega) (by omega) (by rw [forR_succ hk0, ← eK]; exact stp) (fstp) (by omega)
            · have hA : Kj 44 26 = -1 := hR.2.2.2.1.mpr (by rw [← h4.1]; exact h55)
              refine a_aload_n (kX1_knock.at 32 rfl) 0 rfl ?_
              refine a_iload_n (kX1_knock.at 33 rfl) 1 rfl ?_
              refine a_putI (j := 12) (kX1_knock.at 34 rfl) fp_X1_36 (iI_C12 ht) rfl ?_
              refine a_aload_n (kX1_knock.at 35 rfl) 0 rfl ?_
              refine a_iload_n (kX1_knock.at 36 rfl) 2 rfl ?_
              refine a_putI (j := 13) (kX1_knock.at 37 rfl) fp_X1_40 (iI_C13 ht) rfl ?_
              refine a_aload_n (kX1_knock.at 38 rfl) 0 rfl ?_
              refine a_dup (kX1_knock.at 39 rfl) rfl ?_
              refine a_getI (x := N (4 + t) 9) (kX1_knock.at 40 rfl) fg_X1_97 (iI_C9 ht) ((rd_ni (by decide)).trans (rd_ni (by decide))) ?_
              refine a_iconst (kX1_knock.at 41 rfl) rfl ?_
              refine a_iadd (kX1_knock.at 42 rfl) (inr (by omega)) ?_
              refine a_putI (j := 9) (kX1_knock.at 43 rfl) fp_X1_97 (iI_C9 ht) rfl ?_
              refine a_aload_n (kX1_knock.at 44 rfl) 0 rfl ?_
              refine a_getR (kX1_knock.at 45 rfl) fg_X1_24 (iR_C4 ht) ?_
              refine a_iload_n (kX1_knock.at 46 rfl) 2 rfl ?_
              refine a_dup2 (kX1_knock.at 47 rfl) rfl rfl ?_
              refine a_iald (x := N (28 + 8 * t) j) (kX1_knock.at 48 rfl) (iA_C4 ht) (by omega) ((rd_ne (by omega)).trans ((rd_ne (by omega)).trans (rd_ne (by omega)))) ?_
              refine a_iconst (kX1_knock.at 49 rfl) rfl ?_
              refine a_iadd (kX1_knock.at 50 rfl) (inr (by omega)) ?_
              refine a_iast (kX1_knock.at 51 rfl) (iA_C4 ht) (by omega) ?_
              refine a_aload_n (kX1_knock.at 52 rfl) 0 rfl ?_
              refine a_dup (kX1_knock.at 53 rfl) rfl ?_
              refine a_getI (x := N (4 + t) 14) (kX1_knock.at 54 rfl) fg_X1_106 (iI_C14 ht) ((rd_ne (by omega)).trans ((rd_ni (by decide)).trans ((rd_ni (by decide)).trans (rd_ni (by decide))))) ?_
              refine a_iconst (kX1_knock.at 55 rfl) rfl ?_
              refine a_iload_n (kX1_knock.at 56 rfl) 2 rfl ?_
              refine a_ishl (kX1_knock.at 57 rfl) ?_
              refine a_ior (kX1_knock.at 58 rfl) ?_
              refine a_putI (j := 14) (kX1_knock.at 59 rfl) fp_X1_106 (iI_C14 ht) rfl ?_
              refine a_aload_n (kX1_knock.at 60 rfl) 0 rfl ?_
              refine a_dup (kX1_knock.at 61 rfl) rfl ?_
              refine a_getI (x := N (4 + t) 11) (kX1_knock.at 62 rfl) fg_X1_103 (iI_C11 ht) ((rd_ni (by decide)).trans ((rd_ne (by omega)).trans ((rd_ni (by decide)).trans ((rd_ni (by decide)).trans (rd_ni (by decide)))))) ?_
              refine a_iload_n (kX1_knock.at 63 rfl) 3 rfl ?_
              refine a_aload_n (kX1_knock.at 64 rfl) 0 rfl ?_
              refine a_getR (kX1_knock.at 65 rfl) fg_X1_18 (iR_C2 ht) ?_
              refine a_iload_n (kX1_knock.at 66 rfl) 2 rfl ?_
              refine a_iald (x := N (26 + 8 * t) j) (kX1_knock.at 67 rfl) (iA_C2 ht) (by omega) ((rd_ne (by omega)).trans ((rd_ne (by omega)).trans ((rd_ne (by omega)).trans ((rd_ne (by omega)).trans (rd_ne (by omega)))))) ?_
              refine a_isub (kX1_knock.at 68 rfl) (inr (by omega)) ?_
              refine a_abs (kX1_knock.at 69 rfl) ml_X1_120 ⟨Nat.le_of_ble_eq_true rfl, Nat.le_of_ble_eq_true rfl⟩ ⟨Nat.le_refl _, Nat.le_refl _⟩ (by omega) ?_
              have hab := absI_r (x := best Kj j - N (26 + 8 * t) j) (by omega)
              refine a_iadd (kX1_knock.at 70 rfl) (inr (by omega)) ?_
              refine a_putI (j := 11) (kX1_knock.at 71 rfl) fp_X1_103 (iI_C11 ht) rfl ?_
              refine a_aload_n (kX1_knock.at 72 rfl) 0 rfl ?_
              refine a_getR (kX1_knock.at 73 rfl) fg_X1_30 (iR_C6 ht) ?_
              refine a_aload_n (kX1_knock.at 74 rfl) 0 rfl ?_
              refine a_getR (kX1_knock.at 75 rfl) fg_X1_18 (iR_C2 ht) ?_
              refine a_iload_n (kX1_knock.at 76 rfl) 2 rfl ?_
              refine a_iald (x := N (26 + 8 * t) j) (kX1_knock.at 77 rfl) (iA_C2 ht) (by omega) ((rd_ne (by omega)).trans ((rd_ne (by omega)).trans ((rd_ne (by omega)).trans ((rd_ne (by omega)).trans ((rd_ne (by omega)).trans (rd_ne (by omega))))))) ?_
              refine a_iconst (kX1_knock.at 78 rfl) rfl ?_
              refine a_iadd (kX1_knock.at 79 rfl) (inr (by omega)) ?_
              refine a_iconst (kX1_knock.at 80 rfl) rfl ?_
              refine a_iast (kX1_knock.at 81 rfl) (iA_C6 ht) (by omega) ?_
              refine a_aload_n (kX1_knock.at 82 rfl) 0 rfl ?_
              refine a_getR (kX1_knock.at 83 rfl) fg_X1_30 (iR_C6 ht) ?_
              refine a_iload_n (kX1_knock.at 84 rfl) 3 rfl ?_
              refine a_iconst (kX1_knock.at 85 rfl) rfl ?_
              refine a_iadd (kX1_knock.at 86 rfl) (inr (by omega)) ?_
              refine a_iload_n (kX1_knock.at 87 rfl) 2 rfl ?_
              refine a_iast (kX1_knock.at 88 rfl) (iA_C6 ht) (by omega) ?_
              refine a_aload_n (kX1_knock.at 89 rfl) 0 rfl ?_
              refine a_getR (kX1_knock.at 90 rfl) fg_X1_18 (iR_C2 ht) ?_
              refine a_iload_n (kX1_knock.at 91 rfl) 2 rfl ?_
              refine a_iload_n (kX1_knock.at 92 rfl) 3 rfl ?_
              refine a_iast (kX1_knock.at 93 rfl) (iA_C2 ht) (by omega) ?_
              have stp : SC ((upm (upm (upm (upm (upm (upm (upm (upm (upm N (4 + t) 12 q) (4 + t) 13 j) (4 + t) 9 ((N (4 + t) 9) + 1)) (28 + 8 * t) j ((N (28 + 8 * t) j) + 1)) (4 + t) 14 (iOr (N (4 + t) 14) (iShl 1 j))) (4 + t) 11 ((N (4 + t) 11) + (absI ((best Kj j) - (N (26 + 8 * t) j))))) (30 + 8 * t) ((N (26 + 8 * t) j) + 1) (-1)) (30 + 8 * t) ((best Kj j) + 1) j) (26 + 8 * t) j (best Kj j))) t (knocks Kj q j) := by first | exact stp0 | (have hA' := hA; have z := SC_knock (N1 := upm (upm N (4 + t) 12 q) (4 + t) 13 j) (i := 0) ht hS hR hq.1 hj (by rw [← sj.2.2.1]; exact h21) rfl h35 (fun c x z => up2 c x z) (by rw [if_pos hA, rd_ni (by decide), rd_eq]) (by rw [if_pos hA, rd_eq]); unfold knN at z; exact z) | (have hB : ¬ Kj 44 26 = -1 := fun z => h55 (by rw [h4.1]; exact hR.2.2.2.1.mp z); have z := SC_knock (N1 := N) (i := 0) ht hS hR hq.1 hj (by rw [← sj.2.2.1]; exact h21) rfl h35 (fun _ _ _ => rfl) (by rw [if_neg hB]; exact h4.2.2.2.1) (by rw [if_neg hB]; exact h4.2.2.2.2); unfold knN at z; exact z)
              have fstp : Fm t M ((upm (upm (upm (upm (upm (upm (upm (upm (upm N (4 + t) 12 q) (4 + t) 13 j) (4 + t) 9 ((N (4 + t) 9) + 1)) (28 + 8 * t) j ((N (28 + 8 * t) j) + 1)) (4 + t) 14 (iOr (N (4 + t) 14) (iShl 1 j))) (4 + t) 11 ((N (4 + t) 11) + (absI ((best Kj j) - (N (26 + 8 * t) j))))) (30 + 8 * t) ((N (26 + 8 * t) j) + 1) (-1)) (30 + 8 * t) ((best Kj j) + 1) j) (26 + 8 * t) j (best Kj j))) := by first | exact fst0 | (have hA' := hA; exact ((((((((hF.up (by omega)).up (by omega)).up (by omega)).up (by omega)).up (by omega)).up (by omega)).up (by omega)).up (by omega)).up (by omega)) | exact ((((((hF.up (by omega)).up (by omega)).up (by omega)).up (by omega)).up (by omega)).up (by omega)).up (by omega)
              refine a_iinc (ls' := [(0, vR (4 + t)), (1, vI q), (2, vI (j + 1)), (3, vI (best Kj j))]) (kX1_knock.at 94 rfl) 2 rfl (by decide) (inr (by omega)) rfl ?_
              refine a_goto (tgt := 2) (kX1_knock.at 95 rfl) (by decide) ?_
              refine AW.loc (ls' := [(0, vR (4 + t)), (1, vI q), (2, vI (j + 1))]) [0, 1, 2] rfl ?_
              exact ih ((j + 1)) ((upm (upm (upm (upm (upm (upm (upm (upm (upm N (4 + t) 12 q) (4 + t) 13 j) (4 + t) 9 ((N (4 + t) 9) + 1)) (28 + 8 * t) j ((N (28 + 8 * t) j) + 1)) (4 + t) 14 (iOr (N (4 + t) 14) (iShl 1 j))) (4 + t) 11 ((N (4 + t) 11) + (absI ((best Kj j) - (N (26 + 8 * t) j))))) (30 + 8 * t) ((N (26 + 8 * t) j) + 1) (-1)) (30 + 8 * t) ((best Kj j) + 1) j) (26 + 8 * t) j (best Kj j))) (by omega) (by omega) (by rw [forR_succ hk0, ← eK]; exact stp) (fstp) (by omega)
          · refine a_aload_n (kX1_knock.at 22 rfl) 0 rfl ?_
            refine a_dup (kX1_knock.at 23 rfl) rfl ?_
            refine a_getI (x := N (4 + t) 10) (kX1_knock.at 24 rfl) fg_X1_100 (iI_C10 ht) (rfl) ?_
            refine a_iconst (kX1_knock.at 25 rfl) rfl ?_
            refine a_iadd (kX1_knock.at 26 rfl) (inr (by omega)) ?_
            refine a_putI (j := 10) (kX1_knock.at 27 rfl) fp_X1_100 (iI_C10 ht) rfl ?_
            have stp0 : SC ((upm N (4 + t) 10 ((N (4 + t) 10) + 1))) t (knocks Kj q j) := SC_trag ht hS (by rw [← sj.2.2.1]; exact h21) h35
            have fst0 : Fm t M ((upm N (4 + t) 10 ((N (4 + t) 10) + 1))) := hF.up (by omega)
            refine a_goto (tgt := 150) (kX1_knock.at 28 rfl) (by decide) ?_
            have stp : SC ((upm N (4 + t) 10 ((N (4 + t) 10) + 1))) t (knocks Kj q j) := by first | exact stp0 | (have hA' := hA; have z := SC_knock (N1 := upm (upm N (4 + t) 12 q) (4 + t) 13 j) (i := 0) ht hS hR hq.1 hj (by rw [← sj.2.2.1]; exact h21) rfl h35 (fun c x z => up2 c x z) (by rw [if_pos hA, rd_ni (by decide), rd_eq]) (by rw [if_pos hA, rd_eq]); unfold knN at z; exact z) | (have hB : ¬ Kj 44 26 = -1 := fun z => h55 (by rw [h4.1]; exact hR.2.2.2.1.mp z); have z := SC_knock (N1 := N) (i := 0) ht hS hR hq.1 hj (by rw [← sj.2.2.1]; exact h21) rfl h35 (fun _ _ _ => rfl) (by rw [if_neg hB]; exact h4.2.2.2.1) (by rw [if_neg hB]; exact h4.2.2.2.2); unfold knN at z; exact z)
            have fstp : Fm t M ((upm N (4 + t) 10 ((N (4 + t) 10) + 1))) := by first | exact fst0 | (have hA' := hA; exact ((((((((hF.up (by omega)).up (by omega)).up (by omega)).up (by omega)).up (by omega)).up (by omega)).up (by omega)).up (by omega)).up (by omega)) | exact ((((((hF.up (by omega)).up (by omega)).up (by omega)).up (by omega)).up (by omega)).up (by omega)).up (by omega)
            refine a_iinc (ls' := [(0, vR (4 + t)), (1, vI q), (2, vI (j + 1)), (3, vI (best Kj j))]) (kX1_knock.at 94 rfl) 2 rfl (by decide) (inr (by omega)) rfl ?_
            refine a_goto (tgt := 2) (kX1_knock.at 95 rfl) (by decide) ?_
            refine AW.loc (ls' := [(0, vR (4 + t)), (1, vI q), (2, vI (j + 1))]) [0, 1, 2] rfl ?_
            exact ih ((j + 1)) ((upm N (4 + t) 10 ((N (4 + t) 10) + 1))) (by omega) (by omega) (by rw [forR_succ hk0, ← eK]; exact stp) (fstp) (by omega)
        · have stp0 : SC N t (knocks Kj q j) := by rw [knock_no (by rw [← sj.2.2.1]; exact h21)]; exact hS
          have fst0 := hF
          refine a_goto (tgt := 150) (kX1_knock.at 14 rfl) (by decide) ?_
          have stp : SC (N) t (knocks Kj q j) := by first | exact stp0 | (have hA' := hA; have z := SC_knock (N1 := upm (upm N (4 + t) 12 q) (4 + t) 13 j) (i := 0) ht hS hR hq.1 hj (by rw [← sj.2.2.1]; exact h21) rfl h35 (fun c x z => up2 c x z) (by rw [if_pos hA, rd_ni (by decide), rd_eq]) (by rw [if_pos hA, rd_eq]); unfold knN at z; exact z) | (have hB : ¬ Kj 44 26 = -1 := fun z => h55 (by rw [h4.1]; exact hR.2.2.2.1.mp z); have z := SC_knock (N1 := N) (i := 0) ht hS hR hq.1 hj (by rw [← sj.2.2.1]; exact h21) rfl h35 (fun _ _ _ => rfl) (by rw [if_neg hB]; exact h4.2.2.2.1) (by rw [if_neg hB]; exact h4.2.2.2.2); unfold knN at z; exact z)
          have fstp : Fm t M (N) := by first | exact fst0 | (have hA' := hA; exact ((((((((hF.up (by omega)).up (by omega)).up (by omega)).up (by omega)).up (by omega)).up (by omega)).up (by omega)).up (by omega)).up (by omega)) | exact ((((((hF.up (by omega)).up (by omega)).up (by omega)).up (by omega)).up (by omega)).up (by omega)).up (by omega)
          refine a_iinc (ls' := [(0, vR (4 + t)), (1, vI q), (2, vI (j + 1))]) (kX1_knock.at 94 rfl) 2 rfl (by decide) (inr (by omega)) rfl ?_
          refine a_goto (tgt := 2) (kX1_knock.at 95 rfl) (by decide) ?_
          exact ih ((j + 1)) (N) (by omega) (by omega) (by rw [forR_succ hk0, ← eK]; exact stp) (fstp) (by omega)
  exact key ((K 44 7) - (0) + 1 : Int).toNat (0) M (Int.le_refl _) hlohi  (by rw [forR_nil (Int.le_refl _)]; exact hS0) (Fm.refl t M) (by omega)
theorem k_knock (G : GT) (M K : Mem) (t : Nat) (q n : Int) (ht : t < 2) (hS : SC M t K) (hR : SR K q 0 n) (hq : 0 ≤ q ∧ q ≤ 15) : AM G yX1_knock cX1_knock 4 none 2 M [vR (4 + t), vI q] (pV fun N => SC N t (forR 0 (K 44 7) (fun k N => knocks N q k) K) ∧ Fm t M N) := by
  refine AM.mk (own := RX1) rfl sv_X1_knock.1.2.2.2.2.2 (Nat.le_of_ble_eq_true rfl) rfl ?_
  refine a_iconst (kX1_knock.at 0 rfl) rfl ?_
  refine a_istore_n (ls' := [(0, vR (4 + t)), (1, vI q), (2, vI 0)]) (kX1_knock.at 1 rfl) (by decide) rfl ?_
  refine l_knock G M K t q n _ ht hS hR hq hR.1.1 ?_
  intro N1 hS1 hF1
  show AW _ _ _ _ _ _ 156 [(0, vR (4 + t)), (1, vI q), (2, vI (K 44 7))] [] N1
  exact a_vret (kX1_knock.at 96 rfl) (⟨hS1, hF1⟩)
