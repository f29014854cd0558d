/-! ===== the class: ask, what it answers ===== -/
theorem th_bits (R : Mem) (k : Int) : (0 ≤ thoughtS R k ∧ thoughtS R k < 256) ∧ ∀ u, 0 ≤ u → u ≤ 7 → (isIn (thoughtS R k) u = true ↔ seenI (lives (upm R 50 (3 * k + 1) u)) ≠ 0) := by
  obtain ⟨n, hn⟩ : ∃ n : Int, n = 8 := ⟨_, rfl⟩
  have key := forR_inv (lo := 0) (hi := n) (f := soF R (3 * k + 1)) (a := 0) (fun v b => (0 ≤ b ∧ b < 256) ∧ ∀ u, 0 ≤ u → u ≤ 7 → (isIn b u = true ↔ u < v ∧ seenI (lives (upm R 50 (3 * k + 1) u)) ≠ 0)) (by omega) ⟨by omega, fun u a b => ⟨fun z => absurd z (in255 (e := u) (by omega)).2, fun z => by omega⟩⟩ (fun v b hv0 hv1 hb => ?_)
  · unfold thoughtS
    rw [← hn]
    refine ⟨key.1, fun u a b => (key.2 u a b).trans ⟨fun z => z.2, fun z => ⟨by omega, z⟩⟩⟩
  · unfold soF
    by_cases e : seenI (lives (upm R 50 (3 * k + 1) v)) = 0
    · rw [if_pos e, iOr_z (by omega)]
      refine ⟨hb.1, fun u c d => (hb.2 u c d).trans ⟨fun z => ⟨by omega, z.2⟩, fun z => ⟨?_, z.2⟩⟩⟩
      by_cases eu : u = v
      · subst eu; exact absurd e z.2
      · omega
    · rw [if_neg e]
      have w := fun x (hx : 0 ≤ x ∧ x ≤ 7) => isIn_or1 (m := b) (p := v) (x := x) hb.1 (by omega) hx
      refine ⟨(w 0 (by omega)).2, fun u c d => ?_⟩
      rw [(w u ⟨c, d⟩).1, hb.2 u c d]
      refine ⟨fun z => ?_, fun z => ?_⟩
      · rcases z with z | z
        · exact ⟨by omega, z.2⟩
        · subst z; exact ⟨by omega, e⟩
      · by_cases eu : u = v
        · exact Or.inr eu
        · exact Or.inl ⟨by omega, z.2⟩
/-- the greatest of some numbers, and 0 -/
noncomputable def GT0 (T : Int → Int) (n A : Int) : Prop := (0 ≤ A ∧ ∀ x, 0 ≤ x → x < n → T x ≤ A) ∧ (A = 0 ∨ ∃ x, (0 ≤ x ∧ x < n) ∧ A = T x)
theorem gt_max {T : Int → Int} {n : Int} (hn : 0 ≤ n) {f : Int → Int → Int} (hf : ∀ x g, (T x ≤ g → f x g = g) ∧ (g < T x → f x g = T x)) : GT0 T n (forR 0 n f 0) := by
  refine forR_inv (lo := 0) (hi := n) (f := f) (a := 0) (fun i A => GT0 T i A) hn ⟨⟨Int.le_refl _, fun x a b => by omega⟩, Or.inl rfl⟩ (fun i A a b hA => ?_)
  by_cases h : T i ≤ A
  · rw [(hf i A).1 h]
    refine ⟨⟨hA.1.1, fun x c d => ?_⟩, hA.2.imp id (fun ⟨x, u, v⟩ => ⟨x, by omega, v⟩)⟩
    by_cases ex : x = i
    · rw [ex]; exact h
    · exact hA.1.2 x c (by omega)
  · rw [(hf i A).2 (by omega)]
    have h0 := hA.1.1
    refine ⟨⟨by omega, fun x c d => ?_⟩, Or.inr ⟨i, by omega, rfl⟩⟩
    by_cases ex : x = i
    · rw [ex]; exact Int.le_refl _
    · have := hA.1.2 x c (by omega)
      omega
noncomputable def cnB (sm : Int) (hs : Int → Int → Int) (q x : Int) : Int := forR 0 8 (fun u n => n + if isIn sm u = true ∧ hs u q = x then 1 else 0) 0
theorem cnB_r (sm : Int) (hs : Int → Int → Int) (q x : Int) : 0 ≤ cnB sm hs q x ∧ cnB sm hs q x ≤ 8 := by
  unfold cnB
  obtain ⟨n, hn⟩ : ∃ n : Int, n = 8 := ⟨_, rfl⟩
  rw [← hn]
  refine forR_inv (lo := 0) (hi := n) (fun i A => 0 ≤ A ∧ A ≤ i) (by omega) (by omega) (fun i A a b hA => ?_)
  split <;> omega
theorem cnB_0 {sm : Int} {hs : Int → Int → Int} {q x : Int} (h : ∀ u, 0 ≤ u → u < 8 → ¬ (isIn sm u = true ∧ hs u q = x)) : cnB sm hs q x = 0 := by
  unfold cnB
  refine forR_inv (lo := 0) (hi := 8) (fun i A => A = 0) (by omega) rfl (fun i A a b hA => ?_)
  rw [if_neg (h i a b), hA]
  rfl
theorem ak_cn {sm : Int} {hs : Int → Int → Int} {q a : Int} (h : isIn sm a = true) : forR 0 8 (akB hs sm q a) 0 = cnB sm hs q (hs a q) := by
  unfold cnB
  refine forR_cong fun b n _ _ => ?_
  unfold akB
  by_cases e : isIn sm b = true ∧ hs b q = hs a q
  · rw [if_pos e, if_pos ⟨h, e.1, e.2.symm⟩]
  · rw [if_neg e, if_neg (fun z => e ⟨z.2.1, z.2.2.symm⟩)]
theorem ak_0 {sm : Int} {hs : Int → Int → Int} {q a : Int} (h : ¬ isIn sm a = true) : forR 0 8 (akB hs sm q a) 0 = 0 := by
  refine forR_inv (lo := 0) (hi := 8) (fun i A => A = 0) (by omega) rfl (fun i A _ _ hA => ?_)
  unfold akB
  rw [if_neg (fun z => h z.1), hA]
  rfl
theorem GT0_max {T S : Int → Int} {n m A B : Int} (hA : GT0 T n A) (hB : GT0 S m B) (h1 : ∀ x, 0 ≤ x → x < n → T x ≤ 0 ∨ ∃ a, (0 ≤ a ∧ a < m) ∧ S a = T x) (h2 : ∀ a, 0 ≤ a → a < m → S a ≤ 0 ∨ ∃ x, (0 ≤ x ∧ x < n) ∧ T x = S a) : A = B := by
  have a0 := hA.1.1
  have b0 := hB.1.1
  have l1 : A ≤ B := by
    rcases hA.2 with e | ⟨x, u, e⟩
    · omega
    · rcases h1 x u.1 u.2 with w | ⟨a, v, w⟩
      · omega
      · have := hB.1.2 a v.1 v.2
        omega
  have l2 : B ≤ A := by
    rcases hB.2 with e | ⟨x, u, e⟩
    · omega
    · rcases h2 x u.1 u.2 with w | ⟨a, v, w⟩
      · omega
      · have := hA.1.2 a v.1 v.2
        omega
  omega
theorem gm_alike {N : Mem} {sm q : Int} {hs : Int → Int → Int} (hN : ∀ x, 0 ≤ x → x ≤ 9 → N 8 (q * 10 + x) = cnB sm hs q x) (hr : ∀ a, 0 ≤ a → a ≤ 7 → 0 ≤ hs a q ∧ hs a q ≤ 9) : gm N q = alikeF hs sm q ∧ gm N q ≤ 8 := by
  have hA : GT0 (fun x => N 8 ((q * 10) + x)) 10 (gm N q) := gt_max (by omega) (fun x g => by
    unfold gmF maxI
    refine ⟨fun u => if_neg (by have u' : N 8 ((q * 10) + x) ≤ g := u; omega), fun u => if_pos u⟩)
  have hB : GT0 (fun a => forR 0 8 (akB hs sm q a) 0) 8 (alikeF hs sm q) := gt_max (by omega) (fun a m => by
    unfold akA greater
    refine ⟨fun u => if_neg (by have u' : forR 0 8 (akB hs sm q a) 0 ≤ m := u; omega), fun u => if_pos u⟩)
  refine ⟨GT0_max hA hB (fun x a b => ?_) (fun a b c => ?_), ?_⟩
  · show N 8 (q * 10 + x) ≤ 0 ∨ ∃ a, (0 ≤ a ∧ a < 8) ∧ forR 0 8 (akB hs sm q a) 0 = N 8 (q * 10 + x)
    rw [hN x a (by omega)]
    by_cases h : ∃ u, (0 ≤ u ∧ u < 8) ∧ (isIn sm u = true ∧ hs u q = x)
    · obtain ⟨u, v, w1, w2⟩ := h
      exact Or.inr ⟨u, v, by rw [ak_cn w1, w2]⟩
    · exact Or.inl (by rw [cnB_0 (fun u v w z => h ⟨u, ⟨v, w⟩, z⟩)]; omega)
  · show forR 0 8 (akB hs sm q a) 0 ≤ 0 ∨ ∃ x, (0 ≤ x ∧ x < 10) ∧ N 8 (q * 10 + x) = forR 0 8 (akB hs sm q a) 0
    by_cases h : isIn sm a = true
    · have r := hr a b (by omega)
      exact Or.inr ⟨hs a q, by omega, by rw [hN _ r.1 r.2, ak_cn h]⟩
    · exact Or.inl (by rw [ak_0 h]; omega)
  · rcases hA.2 with e | ⟨x, u, e⟩
    · omega
    · have e' : gm N q = N 8 (q * 10 + x) := e
      rw [e', hN x u.1 (by omega)]
      exact (cnB_r _ _ _ _).2
theorem least_ask {N : Mem} {sm : Int} {hs : Int → Int → Int} (hg : ∀ q, 0 ≤ q → q ≤ 15 → gm N q = alikeF hs sm q ∧ gm N q ≤ 8) : (forR 0 16 (qlF N) (0, 9)).1 = forR 1 16 (akF hs sm) 0 := by
  obtain ⟨n, hn⟩ : ∃ n : Int, n = 16 := ⟨_, rfl⟩
  rw [← hn]
  have key := forR_inv (lo := 0) (hi := n) (f := qlF N) (a := ((0 : Int), (9 : Int))) (fun q z => (q = 0 ∧ z = (0, 9)) ∨ (1 ≤ q ∧ z.1 = forR 1 q (akF hs sm) 0 ∧ z.2 = alikeF hs sm z.1 ∧ 0 ≤ z.1 ∧ z.1 ≤ 15)) (by omega) (Or.inl ⟨rfl, rfl⟩) (fun q z a b hz => ?_)
  · rcases key with k | k
    · omega
    · exact k.2.1
  · have g := hg q a (by omega)
    unfold qlF
    rcases hz with ⟨e1, e2⟩ | ⟨e1, e2, e3, e4⟩
    · subst e1
      rw [e2, if_pos (show gm N 0 < 9 by omega)]
      refine Or.inr ⟨by omega, ?_, g.1, by show (0 : Int) ≤ 0; omega, by show (0 : Int) ≤ 15; omega⟩
      rw [show (0 : Int) + 1 = 1 by omega, forR_nil (Int.le_refl _)]
    · rw [forR_succ e1, ← e2]
      unfold akF
      by_cases h : gm N q < z.2
      · rw [if_pos h, if_pos (by rw [← g.1, ← e3]; exact h)]
        exact Or.inr ⟨by omega, rfl, g.1, a, by show q ≤ 15; omega⟩
      · rw [if_neg h, if_neg (by rw [← g.1, ← e3]; exact h)]
        exact Or.inr ⟨by omega, rfl, e3, e4⟩
theorem ask_eq {N : Mem} {K : Mem} {k : Int} (h : MB K) (hI : CI K) (hk : 0 ≤ k ∧ k < (reads K).1 44 7) (hz : ∀ q x, 0 ≤ q → q ≤ 15 → 0 ≤ x → x ≤ 9 → N 8 (q * 10 + x) = forR 0 8 (cnF (reads K).1 k q x) 0) : (forR 0 16 (qlF N) (0, 9)).1 = askS (find K) k := by
  rw [askS_E (rf_IE h) (reads_BI h).1 (reads_BI h).2 hk]
  have tb := th_bits (reads K).1 k
  refine least_ask (hs := hsT (reads K).1 k) (sm := thoughtS (reads K).1 k) (fun q a b => gm_alike (fun x c d => ?_) (fun u c d => ?_))
  · rw [hz q x a b c d]
    unfold cnB
    refine forR_cong fun u n e f => ?_
    unfold cnF
    have t := tb.2 u e (by omega)
    by_cases g : isIn (thoughtS (reads K).1 k) u = true ∧ hsT (reads K).1 k u q = x
    · rw [if_pos g, if_pos ⟨t.mp g.1, g.2⟩]
    · rw [if_neg g, if_neg (fun z => g ⟨t.mpr z.1, z.2⟩)]
  · have hB := lives_HB ((reads_BI h).1.1.views (k := k) (v := u)).1
    exact hB.2 q k a b hk.1 (by rw [(Fr_lives _).people]; exact hk.2)
theorem k_ask (G : GT) (M K : Mem) (k : Int) (hC : Cp M K) (h : MB K) : AM G yX5_ask cX5_ask 3 (some .int) 4 M [vR 0, vI k] (pI fun r N => r = o_ask K k ∧ Fy M N) := by
  refine AM.mk (own := RX5) rfl sv_X5_ask.1.2.2.2.2.2 (Nat.le_of_ble_eq_true rfl) rfl ?_
  have hI := CI_of hC h
  have ef := find_p K
  have hp := hI.1.1
  have e5 := hC.2.1.2.1
  refine a_aload_n (kX5_ask.at 0 rfl) 0 rfl ?_
  refine a_iload_n (kX5_ask.at 1 rfl) 1 rfl ?_
  refine AW.callV (as := [vI k]) (st := []) (kX5_ask.at 2 rfl) ml_X5_70 sv_X5_isPerson (k := 0) (io_0) rfl rfl ⟨Nat.le_of_ble_eq_true rfl, Nat.le_of_ble_eq_true rfl⟩ ⟨Nat.le_refl _, Nat.le_refl _⟩ rfl rfl (Nat.le_of_ble_eq_true rfl) (k_isPerson G M k) (kIE ?_)
  refine a_ifneB (tgt := 11) (kX5_ask.at 3 rfl) (by decide) (fun h5 => ?_) (fun h5 => ?_)
  · refine a_aload_n (kX5_ask.at 6 rfl) 0 rfl ?_
    refine a_getR (kX5_ask.at 7 rfl) fg_X5_49 ir_0_7 ?_
    refine a_iconst (kX5_ask.at 8 rfl) rfl ?_
    refine AW.callS (as := [vR 8, vI 0]) (st := []) (kX5_ask.at 9 rfl) ml_X5_195 ss_J7_fill_53178 ⟨Nat.le_of_ble_eq_true rfl, Nat.le_of_ble_eq_true rfl⟩ ⟨Nat.le_refl _, Nat.le_refl _⟩ rfl rfl (Nat.le_of_ble_eq_true rfl) (k_fill G M 8 160 0 ia_8 ⟨by decide, by decide⟩) (kV fun N1 hN1 => ?_)
    skip
    have hy1 : Fy M N1 := fun c x a b d e => by rw [hN1.1 c e]
    refine a_iconst (kX5_ask.at 10 rfl) rfl ?_
    refine a_istore_n (ls' := [(0, vR 0), (1, vI k), (2, vI 0)]) (kX5_ask.at 11 rfl) (by decide) rfl ?_
    refine l_kask G N1 K k _ (hC.y h hy1) h hI (by omega) (fun x a b => by rw [hN1.2 x, if_pos ⟨a, b⟩]) (by omega) ?_
    intro N2 hy2 hz2 hb2
    show AW _ _ _ _ _ _ 87 [(0, vR 0), (1, vI k), (2, vI 8)] [] N2
    refine a_aload_n (kX5_ask.at 43 rfl) 0 rfl ?_
    refine AW.callV (as := []) (st := []) (kX5_ask.at 44 rfl) ml_X5_205 sv_X5_quarterOfLeastTally (k := 0) (io_0) rfl rfl ⟨Nat.le_of_ble_eq_true rfl, Nat.le_of_ble_eq_true rfl⟩ ⟨Nat.le_refl _, Nat.le_refl _⟩ rfl rfl (Nat.le_of_ble_eq_true rfl) (k_least G N2) (kIE ?_)
    exact a_iret (kX5_ask.at 45 rfl) (by unfold o_ask; first | (rw [if_neg (by omega)]; exact ⟨rfl, Fy.refl M⟩) | (rw [if_pos (by omega)]; exact ⟨ask_eq h hI (by omega) hz2, hy1.trans hy2⟩))
  · refine a_bipush (kX5_ask.at 4 rfl) rfl rfl ?_
    exact a_iret (kX5_ask.at 5 rfl) (by unfold o_ask; first | (rw [if_neg (by omega)]; exact ⟨rfl, Fy.refl M⟩) | (rw [if_pos (by omega)]; exact ⟨ask_eq h hI (by omega) hz2, hy1.trans hy2⟩))
