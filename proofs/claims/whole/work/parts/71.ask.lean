/-! ===== the class: ask ===== -/
noncomputable def tlF (K : Mem) (p : Int) : Int → Mem → Mem := fun q N => upm N 8 ((q * 10) + (K 56 (8 * q + p))) ((N 8 ((q * 10) + (K 56 (8 * q + p)))) + 1)
set_option maxHeartbeats 4000000 in
set_option maxRecDepth 100000 in
theorem l_ktally (G : GT) (M K : Mem) (p B : Int) (P : Option AV → Mem → Prop) (hT : TR M 1 K 16) (h8 : K 44 7 ≤ 8) (hp : 0 ≤ p ∧ p < K 44 7) (hB : ∀ x, 0 ≤ x → x < 160 → 0 ≤ M 8 x ∧ M 8 x ≤ B) (hB2 : B ≤ 200) (hlohi : (0 : Int) ≤ 16) (kk : ((∀ c : Nat, c ≠ 8 → (forR 0 16 (tlF K p) M) c = M c) ∧ ∀ x, 0 ≤ x → x < 160 → 0 ≤ (forR 0 16 (tlF K p) M) 8 x ∧ (forR 0 16 (tlF K p) M) 8 x ≤ B + 16) → AW G RX5 cX5_tallyHomes 3 none (XM G 1 P) 37 [(0, vR 0), (1, vI p), (2, vI 16)] [] (forR 0 16 (tlF K p) M)) : AW G RX5 cX5_tallyHomes 3 none (XM G 1 P) 2 [(0, vR 0), (1, vI p), (2, vI 0)] [] M := by
  have key : ∀ (nn : Nat) (q : Int) (N : Mem), (0 : Int) ≤ q → q ≤ 16 → N = forR 0 q (tlF K p) M → ((∀ c : Nat, c ≠ 8 → N c = M c) ∧ ∀ x, 0 ≤ x → x < 160 → 0 ≤ N 8 x ∧ N 8 x ≤ B + q) → 16 - q < nn → AW G RX5 cX5_tallyHomes 3 none (XM G 1 P) 2 [(0, vR 0), (1, vI p), (2, vI q)] [] N := by
    intro nn
    induction nn with
    | zero => intro q N hk0 hk1 e_N hF hn; omega
    | succ nn ih =>
      intro q N hk0 hk1 e_N hF hn
      have hr : q < 16 → 0 ≤ K 56 (8 * q + p) ∧ K 56 (8 * q + p) ≤ 9 := fun u => (hT q p (by omega) (by omega) hp.1 hp.2).2.1
      refine a_iload_n (kX5_tallyHomes.at 2 rfl) 2 rfl ?_
      refine a_bipush (kX5_tallyHomes.at 3 rfl) rfl rfl ?_
      refine a_icmpge (tgt := 37) (kX5_tallyHomes.at 4 rfl) (by decide) (fun h5 => ?_) (fun h5 => ?_)
      · subst e_N
        obtain rfl : q = 16 := by omega
        exact kk hF
      · refine a_aload_n (kX5_tallyHomes.at 5 rfl) 0 rfl ?_
        refine a_getR (kX5_tallyHomes.at 6 rfl) fg_X5_49 ir_0_7 ?_
        refine a_iload_n (kX5_tallyHomes.at 7 rfl) 2 rfl ?_
        refine a_bipush (kX5_tallyHomes.at 8 rfl) rfl rfl ?_
        refine a_imul (kX5_tallyHomes.at 9 rfl) (inr (by omega)) ?_
        refine a_aload_n (kX5_tallyHomes.at 10 rfl) 0 rfl ?_
        refine a_getR (kX5_tallyHomes.at 11 rfl) fg_X5_33 ir_0_4 ?_
        refine a_iload_n (kX5_tallyHomes.at 12 rfl) 2 rfl ?_
        refine a_iload_n (kX5_tallyHomes.at 13 rfl) 1 rfl ?_
        refine AW.callV (as := [vI q, vI p]) (st := [vI (q * 10), vR 8]) (kX5_tallyHomes.at 14 rfl) ml_X5_111 sv_X1_homeBehind (k := 5) (io_5) rfl rfl ⟨Nat.le_of_ble_eq_true rfl, Nat.le_of_ble_eq_true rfl⟩ ⟨Nat.le_refl _, Nat.le_refl _⟩ rfl rfl (Nat.le_of_ble_eq_true rfl) (k_homeBehind G N K 1 q p (by omega) (hT.ext fun x => by rw [hF.1 _ (by omega)]) h8 (by omega) hp) (kIE ?_)
        refine a_iadd (kX5_tallyHomes.at 15 rfl) (inr ((by have := hr (by omega); omega))) ?_
        have hr := hr (by omega)
        have hv := hF.2 ((q * 10) + (K 56 (8 * q + p))) (by omega) (by omega)
        have hF1 : (∀ c : Nat, c ≠ 8 → upm N 8 ((q * 10) + (K 56 (8 * q + p))) ((N 8 ((q * 10) + (K 56 (8 * q + p)))) + 1) c = M c) ∧ ∀ x, 0 ≤ x → x < 160 → 0 ≤ upm N 8 ((q * 10) + (K 56 (8 * q + p))) ((N 8 ((q * 10) + (K 56 (8 * q + p)))) + 1) 8 x ∧ upm N 8 ((q * 10) + (K 56 (8 * q + p))) ((N 8 ((q * 10) + (K 56 (8 * q + p)))) + 1) 8 x ≤ B + (q + 1) := by
          refine ⟨fun c hc => by rw [upm_ne hc]; exact hF.1 c hc, fun x a b => ?_⟩
          by_cases ex : x = (q * 10) + (K 56 (8 * q + p))
          · rw [ex, rd_eq]; omega
          · rw [rd_ni ex]; have := hF.2 x a b; omega
        refine a_dup2 (kX5_tallyHomes.at 16 rfl) rfl rfl ?_
        refine a_iald (x := N 8 ((q * 10) + (K 56 (8 * q + p)))) (kX5_tallyHomes.at 17 rfl) (ia_8) (by omega) (rfl) ?_
        refine a_iconst (kX5_tallyHomes.at 18 rfl) rfl ?_
        refine a_iadd (kX5_tallyHomes.at 19 rfl) (inr (by omega)) ?_
        refine a_iast (kX5_tallyHomes.at 20 rfl) (ia_8) (by omega) ?_
        refine a_iinc (ls' := [(0, vR 0), (1, vI p), (2, vI (q + 1))]) (kX5_tallyHomes.at 21 rfl) 2 rfl (by decide) (inr (by omega)) rfl ?_
        refine a_goto (tgt := 2) (kX5_tallyHomes.at 22 rfl) (by decide) ?_
        exact ih ((q + 1)) ((upm N 8 ((q * 10) + (K 56 (8 * q + p))) ((N 8 ((q * 10) + (K 56 (8 * q + p)))) + 1))) (by omega) (by omega) (by rw [forR_succ hk0, ← e_N] <;> (clear ih kk e_N; rfl)) (hF1) (by omega)
  exact key ((16) - (0) + 1 : Int).toNat (0) M (Int.le_refl _) hlohi (forR_nil (Int.le_refl _)).symm (⟨fun _ _ => rfl, fun x a b => by have := hB x a b; omega⟩) (by omega)
theorem k_tallyHomes (G : GT) (M K : Mem) (p B : Int) (hT : TR M 1 K 16) (h8 : K 44 7 ≤ 8) (hp : 0 ≤ p ∧ p < K 44 7) (hB : ∀ x, 0 ≤ x → x < 160 → 0 ≤ M 8 x ∧ M 8 x ≤ B) (hB2 : B ≤ 200) : AM G yX5_tallyHomes cX5_tallyHomes 3 none 1 M [vR 0, vI p] (pV fun N => N = forR 0 16 (tlF K p) M ∧ ∀ x, 0 ≤ x → x < 160 → 0 ≤ N 8 x ∧ N 8 x ≤ B + 16) := by
  refine AM.mk (own := RX5) rfl sv_X5_tallyHomes.1.2.2.2.2.2 (Nat.le_of_ble_eq_true rfl) rfl ?_
  refine a_iconst (kX5_tallyHomes.at 0 rfl) rfl ?_
  refine a_istore_n (ls' := [(0, vR 0), (1, vI p), (2, vI 0)]) (kX5_tallyHomes.at 1 rfl) (by decide) rfl ?_
  refine l_ktally G M K p B _ hT h8 hp hB hB2 (by omega) ?_
  intro hF
  show AW _ _ _ _ _ _ 37 [(0, vR 0), (1, vI p), (2, vI 16)] [] (forR 0 16 (tlF K p) M)
  exact a_vret (kX5_tallyHomes.at 23 rfl) (⟨rfl, hF.2⟩)
theorem tl_all (M K : Mem) (p : Int) (hr : ∀ q, 0 ≤ q → q ≤ 15 → 0 ≤ K 56 (8 * q + p) ∧ K 56 (8 * q + p) ≤ 9) : (∀ c : Nat, c ≠ 8 → forR 0 16 (tlF K p) M c = M c) ∧ ∀ q x, 0 ≤ q → q ≤ 15 → 0 ≤ x → x ≤ 9 → forR 0 16 (tlF K p) M 8 (q * 10 + x) = M 8 (q * 10 + x) + if K 56 (8 * q + p) = x then 1 else 0 := by
  obtain ⟨n, hn⟩ : ∃ n : Int, n = 16 := ⟨_, rfl⟩
  rw [← hn]
  have key := forR_inv (lo := 0) (hi := n) (f := tlF K p) (a := M) (fun i L => (∀ c : Nat, c ≠ 8 → L c = M c) ∧ ∀ q x, 0 ≤ q → q ≤ 15 → 0 ≤ x → x ≤ 9 → L 8 (q * 10 + x) = M 8 (q * 10 + x) + if q < i ∧ K 56 (8 * q + p) = x then 1 else 0) (by omega) ⟨fun _ _ => rfl, fun q x a b c d => by rw [if_neg (by omega)]; omega⟩ (fun i L a b hL => ?_)
  · refine ⟨key.1, fun q x a b c d => ?_⟩
    rw [key.2 q x a b c d]
    by_cases e : K 56 (8 * q + p) = x
    · rw [if_pos e, if_pos ⟨by omega, e⟩]
    · rw [if_neg e, if_neg (fun u => e u.2)]
  · have r := hr i a (by omega)
    unfold tlF
    refine ⟨fun c hc => by rw [upm_ne hc]; exact hL.1 c hc, fun q x e f g k => ?_⟩
    by_cases ex : q * 10 + x = (i * 10) + (K 56 (8 * i + p))
    · have eq : q = i := by omega
      subst eq
      have ex2 : K 56 (8 * q + p) = x := by omega
      rw [ex, rd_eq, if_pos ⟨by omega, ex2⟩, ← ex, hL.2 q x e f g k, if_neg (by omega)]
      omega
    · rw [rd_ni ex, hL.2 q x e f g k]
      by_cases e2 : q < i ∧ K 56 (8 * q + p) = x
      · rw [if_pos e2, if_pos ⟨by omega, e2.2⟩]
      · rw [if_neg e2, if_neg (fun u => e2 ⟨by (by_cases e3 : q = i); (exfalso; subst e3; omega); omega, u.2⟩)]
noncomputable def cnF (R : Mem) (k q x : Int) : Int → Int → Int := fun u n => n + if seenI (lives (upm R 50 (3 * k + 1) u)) ≠ 0 ∧ hsT R k u q = x then 1 else 0
set_option maxHeartbeats 4000000 in
set_option maxRecDepth 100000 in
theorem l_kask (G : GT) (M K : Mem) (k : Int) (P : Option AV → Mem → Prop) (hC : Cp M K) (h : MB K) (hI : CI K) (hk : 0 ≤ k ∧ k < (reads K).1 44 7) (hM : ∀ x, 0 ≤ x → x < 160 → M 8 x = 0) (hlohi : (0 : Int) ≤ 8) (kk : ∀ (N : Mem), (Fy M N) → (∀ q x, 0 ≤ q → q ≤ 15 → 0 ≤ x → x ≤ 9 → N 8 (q * 10 + x) = forR 0 8 (cnF (reads K).1 k q x) 0) → (∀ x, 0 ≤ x → x < 160 → 0 ≤ N 8 x ∧ N 8 x ≤ 16 * 8) → AW G RX5 cX5_ask 3 (some .int) (XM G 4 P) 87 [(0, vR 0), (1, vI k), (2, vI 8)] [] N) : AW G RX5 cX5_ask 3 (some .int) (XM G 4 P) 21 [(0, vR 0), (1, vI k), (2, vI 0)] [] M := by
  have key : ∀ (nn : Nat) (v : Int)  (N : Mem), (0 : Int) ≤ v → v ≤ 8 → (Fy M N) → (∀ q x, 0 ≤ q → q ≤ 15 → 0 ≤ x → x ≤ 9 → N 8 (q * 10 + x) = forR 0 v (cnF (reads K).1 k q x) 0) → (∀ x, 0 ≤ x → x < 160 → 0 ≤ N 8 x ∧ N 8 x ≤ 16 * v) → 8 - v < nn → AW G RX5 cX5_ask 3 (some .int) (XM G 4 P) 21 [(0, vR 0), (1, vI k), (2, vI v)] [] N := by
    intro nn
    induction nn with
    | zero => intro v N hk0 hk1  hy hz hb hn; omega
    | succ nn ih =>
      intro v N hk0 hk1  hy hz hb hn
      have hCN := hC.y h hy
      have hp8 := hI.1.1
      refine a_iload_n (kX5_ask.at 12 rfl) 2 rfl ?_
      refine a_bipush (kX5_ask.at 13 rfl) rfl rfl ?_
      refine a_icmpge (tgt := 87) (kX5_ask.at 14 rfl) (by decide) (fun h24 => ?_) (fun h24 => ?_)
      · obtain rfl : v = 8 := by omega
        exact kk N hy hz hb
      · refine a_aload_n (kX5_ask.at 15 rfl) 0 rfl ?_
        refine a_getR (kX5_ask.at 16 rfl) fg_X5_33 ir_0_4 ?_
        refine a_aload_n (kX5_ask.at 17 rfl) 0 rfl ?_
        refine a_getR (kX5_ask.at 18 rfl) fg_X5_10 ir_0_0 ?_
        refine a_aload_n (kX5_ask.at 19 rfl) 0 rfl ?_
        refine a_getR (kX5_ask.at 20 rfl) fg_X5_19 ir_0_1 ?_
        refine a_sipush (kX5_ask.at 21 rfl) rfl rfl ?_
        refine AW.callV (as := [vR 1, vR 2, vI 255]) (st := []) (kX5_ask.at 22 rfl) ml_X5_157 sv_X1_load (k := 5) (io_5) rfl rfl ⟨Nat.le_of_ble_eq_true rfl, Nat.le_of_ble_eq_true rfl⟩ ⟨Nat.le_refl _, Nat.le_refl _⟩ rfl rfl (Nat.le_of_ble_eq_true rfl) (k_loadT G N K 255 hCN h (by omega)) (kV fun N2 hN2 => ?_)
        skip
        refine a_aload_n (kX5_ask.at 23 rfl) 0 rfl ?_
        refine a_getR (kX5_ask.at 24 rfl) fg_X5_33 ir_0_4 ?_
        refine a_getR (kX5_ask.at 25 rfl) fg_X5_193 ir_5_1 ?_
        refine a_iload_n (kX5_ask.at 26 rfl) 1 rfl ?_
        refine a_iload_n (kX5_ask.at 27 rfl) 2 rfl ?_
        refine a_iast (kX5_ask.at 28 rfl) (ia_33) (by omega) ?_
        refine a_aload_n (kX5_ask.at 29 rfl) 0 rfl ?_
        refine a_getR (kX5_ask.at 30 rfl) fg_X5_33 ir_0_4 ?_
        refine AW.callV (as := []) (st := []) (kX5_ask.at 31 rfl) ml_X5_162 sv_X1_run (k := 5) (io_5) rfl rfl ⟨Nat.le_of_ble_eq_true rfl, Nat.le_of_ble_eq_true rfl⟩ ⟨Nat.le_refl _, Nat.le_refl _⟩ rfl rfl (Nat.le_of_ble_eq_true rfl) (k_runT G (upm N2 33 k v) (upm (reads K).1 50 (3 * k + 1) v) (LD_at (LD_all hCN h hN2) 1 (by omega) k v hk) (IR_views hI.1 (by omega)) (hI.2.at50 _ _)) (kV fun N3 hN3 => ?_)
        skip
        obtain ⟨s3, t3, r3, f3⟩ := hN3
        have hy4 : Fy M (upm N2 33 k v) := (hy.trans hN2.y).trans (fun c x a b d e => rd_ne (by omega))
        have hy5 : Fy M N3 := hy4.trans f3.y
        have e8 : ∀ x, N3 8 x = N 8 x := fun x => by rw [f3 8 x (by omega) (by omega) (by omega) (by omega) (by omega) (by omega) (by omega), rd_ne (by omega), hN2.2 8 x (by omega) (by omega)]
        have e7 : lives (upm (reads K).1 50 (3 * k + 1) v) 44 7 = (reads K).1 44 7 := (Fr_lives _).people
        have hzB : ¬ seenI (lives (upm (reads K).1 50 (3 * k + 1) v)) ≠ 0 → ∀ q x, 0 ≤ q → q ≤ 15 → 0 ≤ x → x ≤ 9 → N3 8 (q * 10 + x) = forR 0 (v + 1) (cnF (reads K).1 k q x) 0 := fun u q x a b c d => by
          rw [forR_succ hk0, e8, hz q x a b c d]
          unfold cnF
          rw [if_neg (fun w => u w.1)]
          omega
        have hbB : ∀ x, 0 ≤ x → x < 160 → 0 ≤ N3 8 x ∧ N3 8 x ≤ 16 * (v + 1) := fun x a b => by rw [e8]; have := hb x a b; omega
        refine a_aload_n (kX5_ask.at 32 rfl) 0 rfl ?_
        refine a_getR (kX5_ask.at 33 rfl) fg_X5_33 ir_0_4 ?_
        refine a_aload_n (kX5_ask.at 34 rfl) 0 rfl ?_
        refine a_getR (kX5_ask.at 35 rfl) fg_X5_23 ir_0_2 ?_
        refine AW.callV (as := [vR 3]) (st := []) (kX5_ask.at 36 rfl) ml_X5_189 sv_X1_showsAll (k := 5) (io_5) rfl rfl ⟨Nat.le_of_ble_eq_true rfl, Nat.le_of_ble_eq_true rfl⟩ ⟨Nat.le_refl _, Nat.le_refl _⟩ rfl rfl (Nat.le_of_ble_eq_true rfl) (k_shows G (upm N2 33 k v) N3 M K _ hC hy4 s3 t3 r3 f3 (reads_28 h) (reads_60 h)) (kIE ?_)
        refine a_ifeqB (tgt := 81) (kX5_ask.at 37 rfl) (by decide) (fun h73 => ?_) (fun h73 => ?_)
        · all_goals (try (have tA := tl_all N3 (lives (upm (reads K).1 50 (3 * k + 1) v)) k hr; rw [← hN5.1] at tA))
          all_goals (try (have hyA : Fy M N5 := hy5.trans (fun c x a b d e => by rw [tA.1 c e])))
          all_goals (try (have hzA : ∀ q x, 0 ≤ q → q ≤ 15 → 0 ≤ x → x ≤ 9 → N5 8 (q * 10 + x) = forR 0 (v + 1) (cnF (reads K).1 k q x) 0 := fun q x a b c d => by (rw [forR_succ hk0, tA.2 q x a b c d, e8, hz q x a b c d]; unfold cnF hsT; (by_cases e : lives (upm (reads K).1 50 (3 * k + 1) v) 56 (8 * q + k) = x); (rw [if_pos e, if_pos ⟨h73, e⟩]); (rw [if_neg e, if_neg (fun u => e u.2)]))))
          all_goals (try (have hbA : ∀ x, 0 ≤ x → x < 160 → 0 ≤ N5 8 x ∧ N5 8 x ≤ 16 * (v + 1) := fun x a b => by (have := hN5.2 x a b; omega)))
          refine a_iinc (ls' := [(0, vR 0), (1, vI k), (2, vI (v + 1))]) (kX5_ask.at 41 rfl) 2 rfl (by decide) (inr (by omega)) rfl ?_
          refine a_goto (tgt := 21) (kX5_ask.at 42 rfl) (by decide) ?_
          exact ih ((v + 1)) (N3) (by omega) (by omega) (by first | exact hyA | exact hy5) (by first | exact hzA | exact hzB h73) (by first | exact hbA | exact hbB) (by omega)
        · have hr : ∀ q, 0 ≤ q → q ≤ 15 → 0 ≤ lives (upm (reads K).1 50 (3 * k + 1) v) 56 (8 * q + k) ∧ lives (upm (reads K).1 50 (3 * k + 1) v) 56 (8 * q + k) ≤ 9 := fun q a b => (t3 q k a (by omega) hk.1 (by omega)).2.1
          refine a_aload_n (kX5_ask.at 38 rfl) 0 rfl ?_
          refine a_iload_n (kX5_ask.at 39 rfl) 1 rfl ?_
          refine AW.callV (as := [vI k]) (st := []) (kX5_ask.at 40 rfl) ml_X5_201 sv_X5_tallyHomes (k := 0) (io_0) rfl rfl ⟨Nat.le_of_ble_eq_true rfl, Nat.le_of_ble_eq_true rfl⟩ ⟨Nat.le_refl _, Nat.le_refl _⟩ rfl rfl (Nat.le_of_ble_eq_true rfl) (k_tallyHomes G N3 (lives (upm (reads K).1 50 (3 * k + 1) v)) k (16 * v) t3 r3.1.2 (by omega) (fun x a b => by rw [e8]; exact hb x a b) (by omega)) (kV fun N5 hN5 => ?_)
          skip
          all_goals (try (have tA := tl_all N3 (lives (upm (reads K).1 50 (3 * k + 1) v)) k hr; rw [← hN5.1] at tA))
          all_goals (try (have hyA : Fy M N5 := hy5.trans (fun c x a b d e => by rw [tA.1 c e])))
          all_goals (try (have hzA : ∀ q x, 0 ≤ q → q ≤ 15 → 0 ≤ x → x ≤ 9 → N5 8 (q * 10 + x) = forR 0 (v + 1) (cnF (reads K).1 k q x) 0 := fun q x a b c d => by (rw [forR_succ hk0, tA.2 q x a b c d, e8, hz q x a b c d]; unfold cnF hsT; (by_cases e : lives (upm (reads K).1 50 (3 * k + 1) v) 56 (8 * q + k) = x); (rw [if_pos e, if_pos ⟨h73, e⟩]); (rw [if_neg e, if_neg (fun u => e u.2)]))))
          all_goals (try (have hbA : ∀ x, 0 ≤ x → x < 160 → 0 ≤ N5 8 x ∧ N5 8 x ≤ 16 * (v + 1) := fun x a b => by (have := hN5.2 x a b; omega)))
          refine a_iinc (ls' := [(0, vR 0), (1, vI k), (2, vI (v + 1))]) (kX5_ask.at 41 rfl) 2 rfl (by decide) (inr (by omega)) rfl ?_
          refine a_goto (tgt := 21) (kX5_ask.at 42 rfl) (by decide) ?_
          exact ih ((v + 1)) (N5) (by omega) (by omega) (by first | exact hyA | exact hy5) (by first | exact hzA | exact hzB h73) (by first | exact hbA | exact hbB) (by omega)
  exact key ((8) - (0) + 1 : Int).toNat (0) M (Int.le_refl _) hlohi  (Fy.refl M) (fun q x a b c d => by rw [forR_nil (Int.le_refl _)]; exact hM _ (by omega) (by omega)) (fun x a b => by rw [hM x a b]; omega) (by omega)
noncomputable def gmF (M : Mem) (q : Int) : Int → Int → Int := fun x g => maxI g (M 8 ((q * 10) + x))
noncomputable def gm (M : Mem) (q : Int) : Int := forR 0 10 (gmF M q) 0
noncomputable def qlF (M : Mem) : Int → Int × Int → Int × Int := fun q z => if gm M q < z.2 then (q, gm M q) else z
set_option maxHeartbeats 4000000 in
set_option maxRecDepth 100000 in
theorem l_kleastA (G : GT) (M : Mem) (w l q : Int) (P : Option AV → Mem → Prop) (hq : 0 ≤ q ∧ q ≤ 15) (hlohi : (0 : Int) ≤ 10) (kk : AW G RX5 cX5_quarterOfLeastTally 6 (some .int) (XM G 1 P) 51 [(0, vR 0), (1, vI w), (2, vI l), (3, vI q), (4, vI (forR 0 10 (gmF M q) 0)), (5, vI 10)] [] M) : AW G RX5 cX5_quarterOfLeastTally 6 (some .int) (XM G 1 P) 19 [(0, vR 0), (1, vI w), (2, vI l), (3, vI q), (4, vI 0), (5, vI 0)] [] M := by
  have key : ∀ (nn : Nat) (x : Int) (g : Int), (0 : Int) ≤ x → x ≤ 10 → g = forR 0 x (gmF M q) 0 → 10 - x < nn → AW G RX5 cX5_quarterOfLeastTally 6 (some .int) (XM G 1 P) 19 [(0, vR 0), (1, vI w), (2, vI l), (3, vI q), (4, vI g), (5, vI x)] [] M := by
    intro nn
    induction nn with
    | zero => intro x g hk0 hk1 e_g  hn; omega
    | succ nn ih =>
      intro x g hk0 hk1 e_g  hn
      refine a_iload (kX5_quarterOfLeastTally.at 13 rfl) 5 rfl ?_
      refine a_bipush (kX5_quarterOfLeastTally.at 14 rfl) rfl rfl ?_
      refine a_icmpge (tgt := 51) (kX5_quarterOfLeastTally.at 15 rfl) (by decide) (fun h23 => ?_) (fun h23 => ?_)
      · subst e_g
        obtain rfl : x = 10 := by omega
        exact kk 
      · refine a_iload (kX5_quarterOfLeastTally.at 16 rfl) 4 rfl ?_
        refine a_aload_n (kX5_quarterOfLeastTally.at 17 rfl) 0 rfl ?_
        refine a_getR (kX5_quarterOfLeastTally.at 18 rfl) fg_X5_49 ir_0_7 ?_
        refine a_iload_n (kX5_quarterOfLeastTally.at 19 rfl) 3 rfl ?_
        refine a_bipush (kX5_quarterOfLeastTally.at 20 rfl) rfl rfl ?_
        refine a_imul (kX5_quarterOfLeastTally.at 21 rfl) (inr (by omega)) ?_
        refine a_iload (kX5_quarterOfLeastTally.at 22 rfl) 5 rfl ?_
        refine a_iadd (kX5_quarterOfLeastTally.at 23 rfl) (inr (by omega)) ?_
        refine a_iald (x := M 8 ((q * 10) + x)) (kX5_quarterOfLeastTally.at 24 rfl) (ia_8) (by omega) (rfl) ?_
        refine a_max (kX5_quarterOfLeastTally.at 25 rfl) ml_X5_327 ⟨Nat.le_of_ble_eq_true rfl, Nat.le_of_ble_eq_true rfl⟩ ⟨Nat.le_refl _, Nat.le_refl _⟩ ?_
        refine a_istore (ls' := [(0, vR 0), (1, vI w), (2, vI l), (3, vI q), (4, vI (maxI g (M 8 ((q * 10) + x)))), (5, vI x)]) (kX5_quarterOfLeastTally.at 26 rfl) (by decide) rfl ?_
        refine a_iinc (ls' := [(0, vR 0), (1, vI w), (2, vI l), (3, vI q), (4, vI (maxI g (M 8 ((q * 10) + x)))), (5, vI (x + 1))]) (kX5_quarterOfLeastTally.at 27 rfl) 5 rfl (by decide) (inr (by omega)) rfl ?_
        refine a_goto (tgt := 19) (kX5_quarterOfLeastTally.at 28 rfl) (by decide) ?_
        exact ih ((x + 1)) ((maxI g (M 8 ((q * 10) + x)))) (by omega) (by omega) (by rw [forR_succ hk0, ← e_g] <;> (clear ih kk e_g; rfl)) (by omega)
  exact key ((10) - (0) + 1 : Int).toNat (0) 0 (Int.le_refl _) hlohi (forR_nil (Int.le_refl _)).symm  (by omega)
set_option maxHeartbeats 4000000 in
set_option maxRecDepth 100000 in
theorem l_kleast (G : GT) (M : Mem) (P : Option AV → Mem → Prop) (hlohi : (0 : Int) ≤ 16) (kk : AW G RX5 cX5_quarterOfLeastTally 6 (some .int) (XM G 1 P) 68 [(0, vR 0), (1, vI ((forR 0 16 (qlF M) (0, 9)).1)), (2, vI ((forR 0 16 (qlF M) (0, 9)).2)), (3, vI 16)] [] M) : AW G RX5 cX5_quarterOfLeastTally 6 (some .int) (XM G 1 P) 7 [(0, vR 0), (1, vI 0), (2, vI 9), (3, vI 0)] [] M := by
  have key : ∀ (nn : Nat) (q : Int)  (w : Int) (l : Int), (0 : Int) ≤ q → q ≤ 16 → (w, l) = forR 0 q (qlF M) (0, 9) → 16 - q < nn → AW G RX5 cX5_quarterOfLeastTally 6 (some .int) (XM G 1 P) 7 [(0, vR 0), (1, vI w), (2, vI l), (3, vI q)] [] M := by
    intro nn
    induction nn with
    | zero => intro q w l hk0 hk1 e_t  hn; omega
    | succ nn ih =>
      intro q w l hk0 hk1 e_t  hn
      refine a_iload_n (kX5_quarterOfLeastTally.at 6 rfl) 3 rfl ?_
      refine a_bipush (kX5_quarterOfLeastTally.at 7 rfl) rfl rfl ?_
      refine a_icmpge (tgt := 68) (kX5_quarterOfLeastTally.at 8 rfl) (by decide) (fun h10 => ?_) (fun h10 => ?_)
      · obtain rfl : q = 16 := by omega
        rw [← e_t] at kk
        exact kk 
      · refine a_iconst (kX5_quarterOfLeastTally.at 9 rfl) rfl ?_
        refine a_istore (ls' := [(0, vR 0), (1, vI w), (2, vI l), (3, vI q), (4, vI 0)]) (kX5_quarterOfLeastTally.at 10 rfl) (by decide) rfl ?_
        refine a_iconst (kX5_quarterOfLeastTally.at 11 rfl) rfl ?_
        refine a_istore (ls' := [(0, vR 0), (1, vI w), (2, vI l), (3, vI q), (4, vI 0), (5, vI 0)]) (kX5_quarterOfLeastTally.at 12 rfl) (by decide) rfl ?_
        refine l_kleastA G M w l q _ (by omega) (by omega) ?_
        show AW _ _ _ _ _ _ 51 [(0, vR 0), (1, vI w), (2, vI l), (3, vI q), (4, vI (gm M q)), (5, vI 10)] [] M
        refine a_iload (kX5_quarterOfLeastTally.at 29 rfl) 4 rfl ?_
        refine a_iload_n (kX5_quarterOfLeastTally.at 30 rfl) 2 rfl ?_
        refine a_icmpge (tgt := 62) (kX5_quarterOfLeastTally.at 31 rfl) (by decide) (fun h54 => ?_) (fun h54 => ?_)
        · refine a_iinc (ls' := [(0, vR 0), (1, vI w), (2, vI l), (3, vI (q + 1)), (4, vI (gm M q)), (5, vI 10)]) (kX5_quarterOfLeastTally.at 36 rfl) 3 rfl (by decide) (inr (by omega)) rfl ?_
          refine a_goto (tgt := 7) (kX5_quarterOfLeastTally.at 37 rfl) (by decide) ?_
          refine AW.loc (ls' := [(0, vR 0), (1, vI w), (2, vI l), (3, vI (q + 1))]) [0, 1, 2, 3] rfl ?_
          exact ih ((q + 1)) (w) (l) (by omega) (by omega) (by rw [forR_succ hk0, ← e_t] <;> (clear ih kk e_t; show (_ : Int × Int) = if gm M q < l then (q, gm M q) else (w, l); first | (rw [if_pos (by omega)]) | (rw [if_neg (by omega)]))) (by omega)
        · refine a_iload_n (kX5_quarterOfLeastTally.at 32 rfl) 3 rfl ?_
          refine a_istore_n (ls' := [(0, vR 0), (1, vI q), (2, vI l), (3, vI q), (4, vI (gm M q)), (5, vI 10)]) (kX5_quarterOfLeastTally.at 33 rfl) (by decide) rfl ?_
          refine a_iload (kX5_quarterOfLeastTally.at 34 rfl) 4 rfl ?_
          refine a_istore_n (ls' := [(0, vR 0), (1, vI q), (2, vI (gm M q)), (3, vI q), (4, vI (gm M q)), (5, vI 10)]) (kX5_quarterOfLeastTally.at 35 rfl) (by decide) rfl ?_
          refine a_iinc (ls' := [(0, vR 0), (1, vI q), (2, vI (gm M q)), (3, vI (q + 1)), (4, vI (gm M q)), (5, vI 10)]) (kX5_quarterOfLeastTally.at 36 rfl) 3 rfl (by decide) (inr (by omega)) rfl ?_
          refine a_goto (tgt := 7) (kX5_quarterOfLeastTally.at 37 rfl) (by decide) ?_
          refine AW.loc (ls' := [(0, vR 0), (1, vI q), (2, vI (gm M q)), (3, vI (q + 1))]) [0, 1, 2, 3] rfl ?_
          exact ih ((q + 1)) (q) ((gm M q)) (by omega) (by omega) (by rw [forR_succ hk0, ← e_t] <;> (clear ih kk e_t; show (_ : Int × Int) = if gm M q < l then (q, gm M q) else (w, l); first | (rw [if_pos (by omega)]) | (rw [if_neg (by omega)]))) (by omega)
  exact key ((16) - (0) + 1 : Int).toNat (0) 0 9 (Int.le_refl _) hlohi (forR_nil (Int.le_refl _)).symm  (by omega)
theorem k_least (G : GT) (M : Mem) : AM G yX5_quarterOfLeastTally cX5_quarterOfLeastTally 6 (some .int) 1 M [vR 0] (qI (forR 0 16 (qlF M) (0, 9)).1 M) := by
  refine AM.mk (own := RX5) rfl sv_X5_quarterOfLeastTally.1.2.2.2.2.2 (Nat.le_of_ble_eq_true rfl) rfl ?_
  refine a_iconst (kX5_quarterOfLeastTally.at 0 rfl) rfl ?_
  refine a_istore_n (ls' := [(0, vR 0), (1, vI 0)]) (kX5_quarterOfLeastTally.at 1 rfl) (by decide) rfl ?_
  refine a_bipush (kX5_quarterOfLeastTally.at 2 rfl) rfl rfl ?_
  refine a_istore_n (ls' := [(0, vR 0), (1, vI 0), (2, vI 9)]) (kX5_quarterOfLeastTally.at 3 rfl) (by decide) rfl ?_
  refine a_iconst (kX5_quarterOfLeastTally.at 4 rfl) rfl ?_
  refine a_istore_n (ls' := [(0, vR 0), (1, vI 0), (2, vI 9), (3, vI 0)]) (kX5_quarterOfLeastTally.at 5 rfl) (by decide) rfl ?_
  refine l_kleast G M _ (by omega) ?_
  show AW _ _ _ _ _ _ 68 [(0, vR 0), (1, vI ((forR 0 16 (qlF M) (0, 9)).1)), (2, vI ((forR 0 16 (qlF M) (0, 9)).2)), (3, vI 16)] [] M
  refine a_iload_n (kX5_quarterOfLeastTally.at 38 rfl) 1 rfl ?_
  exact a_iretE (kX5_quarterOfLeastTally.at 39 rfl) (⟨rfl, rfl⟩)
