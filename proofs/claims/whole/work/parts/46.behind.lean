/-! ===== the class: what is behind a quarter ===== -/
theorem or_add {x y k : Nat} (h : x < 2 ^ k) : x ||| (y * 2 ^ k) = x + y * 2 ^ k := by
  have := Nat.two_pow_add_eq_or_of_lt (i := k) h y
  rw [Nat.or_comm, Nat.mul_comm y, ← this, Nat.add_comm]
theorem pk_nat {a b c d : Nat} (ha : a ≤ 9) (hb : b ≤ 7) (hc : c ≤ 16) (hd : d ≤ 16) : pk (a : Int) (b : Int) (c : Int) (d : Int) = ((a + b * 2 ^ 4 + c * 2 ^ 7 + d * 2 ^ 12 : Nat) : Int) := by
  unfold pk
  rw [show (4 : Int) = ((4 : Nat) : Int) by rfl, show (7 : Int) = ((7 : Nat) : Int) by rfl, show (12 : Int) = ((12 : Nat) : Int) by rfl, iShl_nat (x := b) (k := 4) (by omega) (by omega), iShl_nat (x := c) (k := 7) (by omega) (by omega), iShl_nat (x := d) (k := 12) (by omega) (by omega), iOr_nat (by omega) (by omega), or_add (x := a) (k := 4) (by omega), iOr_nat (by omega) (by omega), or_add (x := a + b * 2 ^ 4) (k := 7) (by omega), iOr_nat (by omega) (by omega), or_add (x := a + b * 2 ^ 4 + c * 2 ^ 7) (k := 12) (by omega)]
theorem and_mod {x k : Nat} (hx : x < 2147483648) (hk : k ≤ 8) (m : Int) (hm : m = ((2 ^ k - 1 : Nat) : Int)) : iAnd (x : Int) m = ((x % 2 ^ k : Nat) : Int) := by
  have : 2 ^ k ≤ 2 ^ 8 := Nat.pow_le_pow_right (by decide) hk
  rw [hm, iAnd_nat hx (by omega), Nat.and_two_pow_sub_one_eq_mod]
theorem pk_all {a b c d : Int} (ha : 0 ≤ a ∧ a ≤ 9) (hb : 0 ≤ b ∧ b ≤ 7) (hc : 0 ≤ c ∧ c ≤ 16) (hd : 0 ≤ d ∧ d ≤ 16) : iAnd (pk a b c d) 15 = a ∧ iAnd (iShr (pk a b c d) 4) 7 = b ∧ iAnd (iShr (pk a b c d) 7) 31 = c ∧ iAnd (iShr (pk a b c d) 12) 31 = d := by
  obtain ⟨a, rfl⟩ := nat_of ha.1
  obtain ⟨b, rfl⟩ := nat_of hb.1
  obtain ⟨c, rfl⟩ := nat_of hc.1
  obtain ⟨d, rfl⟩ := nat_of hd.1
  rw [pk_nat (by omega) (by omega) (by omega) (by omega), show (4 : Int) = ((4 : Nat) : Int) by rfl, show iShr ((a + b * 2 ^ 4 + c * 2 ^ 7 + d * 2 ^ 12 : Nat) : Int) 7 = iShr ((a + b * 2 ^ 4 + c * 2 ^ 7 + d * 2 ^ 12 : Nat) : Int) ((7 : Nat) : Int) by rfl, show (12 : Int) = ((12 : Nat) : Int) by rfl, iShr_nat (k := 4) (by omega) (by omega), iShr_nat (k := 7) (by omega) (by omega), iShr_nat (k := 12) (by omega) (by omega), Nat.shiftRight_eq_div_pow, Nat.shiftRight_eq_div_pow, Nat.shiftRight_eq_div_pow]
  rw [and_mod (k := 4) (by omega) (by omega) 15 (by rfl), and_mod (k := 3) (by omega) (by omega) 7 (by rfl), and_mod (k := 5) (by omega) (by omega) 31 (by rfl), and_mod (k := 5) (by omega) (by omega) 31 (by rfl)]
  omega
theorem TR.at {M K : Mem} {t : Nat} (h : TR M t K 16) {q p : Int} (hq : 0 ≤ q ∧ q ≤ 15) (hp : 0 ≤ p ∧ p < K 44 7) : iAnd (M (31 + 8 * t) (q * 8 + p)) 15 = K 56 (8 * q + p) ∧ iAnd (iShr (M (31 + 8 * t) (q * 8 + p)) 4) 7 = K 57 (8 * q + p) ∧ iAnd (iShr (M (31 + 8 * t) (q * 8 + p)) 7) 31 = K 58 (8 * q + p) ∧ iAnd (iShr (M (31 + 8 * t) (q * 8 + p)) 12) 31 = K 59 (8 * q + p) := by
  have z := h q p hq.1 (by omega) hp.1 hp.2
  rw [show q * 8 + p = 8 * q + p by omega, z.1]
  exact pk_all z.2.1 z.2.2.1 z.2.2.2.1 z.2.2.2.2
theorem k_homeBehind (G : GT) (M K : Mem) (t : Nat) (q p : Int) (ht : t < 2) (hT : TR M t K 16) (h8 : K 44 7 ≤ 8) (hq : 0 ≤ q ∧ q ≤ 15) (hp : 0 ≤ p ∧ p < K 44 7) : AM G yX1_homeBehind cX1_homeBehind 3 (some .int) 0 M [vR (4 + t), vI q, vI p] (qI (K 56 (8 * q + p)) M) := by
  refine AM.mk (own := RX1) rfl sv_X1_homeBehind.1.2.2.2.2.2 (Nat.le_of_ble_eq_true rfl) rfl ?_
  refine a_aload_n (kX1_homeBehind.at 0 rfl) 0 rfl ?_
  refine a_getR (kX1_homeBehind.at 1 rfl) fg_X1_33 (iR_C7 ht) ?_
  refine a_iload_n (kX1_homeBehind.at 2 rfl) 1 rfl ?_
  refine a_bipush (kX1_homeBehind.at 3 rfl) rfl rfl ?_
  refine a_imul (kX1_homeBehind.at 4 rfl) (inr (by omega)) ?_
  refine a_iload_n (kX1_homeBehind.at 5 rfl) 2 rfl ?_
  refine a_iadd (kX1_homeBehind.at 6 rfl) (inr (by omega)) ?_
  refine a_iald (x := M (31 + 8 * t) ((q * 8) + p)) (kX1_homeBehind.at 7 rfl) (iA_C7 ht) (by omega) (rfl) ?_
  refine a_bipush (kX1_homeBehind.at 8 rfl) rfl rfl ?_
  refine a_iand (kX1_homeBehind.at 9 rfl) ?_
  exact a_iretE (kX1_homeBehind.at 10 rfl) (⟨(hT.at hq hp).1, rfl⟩)
theorem k_viewsBehind (G : GT) (M K : Mem) (t : Nat) (q p : Int) (ht : t < 2) (hT : TR M t K 16) (h8 : K 44 7 ≤ 8) (hq : 0 ≤ q ∧ q ≤ 15) (hp : 0 ≤ p ∧ p < K 44 7) : AM G yX1_viewsBehind cX1_viewsBehind 3 (some .int) 0 M [vR (4 + t), vI q, vI p] (qI (K 57 (8 * q + p)) M) := by
  refine AM.mk (own := RX1) rfl sv_X1_viewsBehind.1.2.2.2.2.2 (Nat.le_of_ble_eq_true rfl) rfl ?_
  refine a_aload_n (kX1_viewsBehind.at 0 rfl) 0 rfl ?_
  refine a_getR (kX1_viewsBehind.at 1 rfl) fg_X1_33 (iR_C7 ht) ?_
  refine a_iload_n (kX1_viewsBehind.at 2 rfl) 1 rfl ?_
  refine a_bipush (kX1_viewsBehind.at 3 rfl) rfl rfl ?_
  refine a_imul (kX1_viewsBehind.at 4 rfl) (inr (by omega)) ?_
  refine a_iload_n (kX1_viewsBehind.at 5 rfl) 2 rfl ?_
  refine a_iadd (kX1_viewsBehind.at 6 rfl) (inr (by omega)) ?_
  refine a_iald (x := M (31 + 8 * t) ((q * 8) + p)) (kX1_viewsBehind.at 7 rfl) (iA_C7 ht) (by omega) (rfl) ?_
  refine a_iconst (kX1_viewsBehind.at 8 rfl) rfl ?_
  refine a_ishr (kX1_viewsBehind.at 9 rfl) ?_
  refine a_bipush (kX1_viewsBehind.at 10 rfl) rfl rfl ?_
  refine a_iand (kX1_viewsBehind.at 11 rfl) ?_
  exact a_iretE (kX1_viewsBehind.at 12 rfl) (⟨(hT.at hq hp).2.1, rfl⟩)
theorem k_movedBehind (G : GT) (M K : Mem) (t : Nat) (q p : Int) (ht : t < 2) (hT : TR M t K 16) (h8 : K 44 7 ≤ 8) (hq : 0 ≤ q ∧ q ≤ 15) (hp : 0 ≤ p ∧ p < K 44 7) : AM G yX1_movedBehind cX1_movedBehind 3 (some .int) 0 M [vR (4 + t), vI q, vI p] (qI (K 58 (8 * q + p)) M) := by
  refine AM.mk (own := RX1) rfl sv_X1_movedBehind.1.2.2.2.2.2 (Nat.le_of_ble_eq_true rfl) rfl ?_
  refine a_aload_n (kX1_movedBehind.at 0 rfl) 0 rfl ?_
  refine a_getR (kX1_movedBehind.at 1 rfl) fg_X1_33 (iR_C7 ht) ?_
  refine a_iload_n (kX1_movedBehind.at 2 rfl) 1 rfl ?_
  refine a_bipush (kX1_movedBehind.at 3 rfl) rfl rfl ?_
  refine a_imul (kX1_movedBehind.at 4 rfl) (inr (by omega)) ?_
  refine a_iload_n (kX1_movedBehind.at 5 rfl) 2 rfl ?_
  refine a_iadd (kX1_movedBehind.at 6 rfl) (inr (by omega)) ?_
  refine a_iald (x := M (31 + 8 * t) ((q * 8) + p)) (kX1_movedBehind.at 7 rfl) (iA_C7 ht) (by omega) (rfl) ?_
  refine a_bipush (kX1_movedBehind.at 8 rfl) rfl rfl ?_
  refine a_ishr (kX1_movedBehind.at 9 rfl) ?_
  refine a_bipush (kX1_movedBehind.at 10 rfl) rfl rfl ?_
  refine a_iand (kX1_movedBehind.at 11 rfl) ?_
  exact a_iretE (kX1_movedBehind.at 12 rfl) (⟨(hT.at hq hp).2.2.1, rfl⟩)
theorem k_cameBehind (G : GT) (M K : Mem) (t : Nat) (q p : Int) (ht : t < 2) (hT : TR M t K 16) (h8 : K 44 7 ≤ 8) (hq : 0 ≤ q ∧ q ≤ 15) (hp : 0 ≤ p ∧ p < K 44 7) : AM G yX1_cameBehind cX1_cameBehind 3 (some .int) 0 M [vR (4 + t), vI q, vI p] (qI (K 59 (8 * q + p)) M) := by
  refine AM.mk (own := RX1) rfl sv_X1_cameBehind.1.2.2.2.2.2 (Nat.le_of_ble_eq_true rfl) rfl ?_
  refine a_aload_n (kX1_cameBehind.at 0 rfl) 0 rfl ?_
  refine a_getR (kX1_cameBehind.at 1 rfl) fg_X1_33 (iR_C7 ht) ?_
  refine a_iload_n (kX1_cameBehind.at 2 rfl) 1 rfl ?_
  refine a_bipush (kX1_cameBehind.at 3 rfl) rfl rfl ?_
  refine a_imul (kX1_cameBehind.at 4 rfl) (inr (by omega)) ?_
  refine a_iload_n (kX1_cameBehind.at 5 rfl) 2 rfl ?_
  refine a_iadd (kX1_cameBehind.at 6 rfl) (inr (by omega)) ?_
  refine a_iald (x := M (31 + 8 * t) ((q * 8) + p)) (kX1_cameBehind.at 7 rfl) (iA_C7 ht) (by omega) (rfl) ?_
  refine a_bipush (kX1_cameBehind.at 8 rfl) rfl rfl ?_
  refine a_ishr (kX1_cameBehind.at 9 rfl) ?_
  refine a_bipush (kX1_cameBehind.at 10 rfl) rfl rfl ?_
  refine a_iand (kX1_cameBehind.at 11 rfl) ?_
  exact a_iretE (kX1_cameBehind.at 12 rfl) (⟨(hT.at hq hp).2.2.2, rfl⟩)
theorem agreed_iff (K : Mem) (q a b : Int) : agreed K q a b = true ↔ K 50 (3 * a) ≠ 2 ∧ K 50 (3 * b) ≠ 2 ∧ K 57 (8 * q + a) = K 57 (8 * q + b) := by
  unfold agreed
  simp only [decide_eq_true_eq]
theorem k_agreeBehind (G : GT) (M K : Mem) (t : Nat) (q a b : Int) (ht : t < 2) (hS : SC M t K) (hT : TR M t K 16) (h8 : K 44 7 ≤ 8) (hq : 0 ≤ q ∧ q ≤ 15) (ha : 0 ≤ a ∧ a < K 44 7) (hb : 0 ≤ b ∧ b < K 44 7) : AM G yX1_agreeBehind cX1_agreeBehind 4 (some .boolean) 1 M [vR (4 + t), vI q, vI a, vI b] (qI (bI (agreed K q a b = true)) M) := by
  refine AM.mk (own := RX1) rfl sv_X1_agreeBehind.1.2.2.2.2.2 (Nat.le_of_ble_eq_true rfl) rfl ?_
  have sa := (hS.2.1 a ha.1 ha.2).1
  have sb := (hS.2.1 b hb.1 hb.2).1
  refine a_aload_n (kX1_agreeBehind.at 0 rfl) 0 rfl ?_
  refine a_getR (kX1_agreeBehind.at 1 rfl) fg_X1_9 (iR_C0 ht) ?_
  refine a_iload_n (kX1_agreeBehind.at 2 rfl) 2 rfl ?_
  refine a_iald (x := M (24 + 8 * t) a) (kX1_agreeBehind.at 3 rfl) (iA_C0 ht) (by omega) (rfl) ?_
  refine a_iconst (kX1_agreeBehind.at 4 rfl) rfl ?_
  refine a_icmpeq (tgt := 39) (kX1_agreeBehind.at 5 rfl) (by decide) (fun h7 => ?_) (fun h7 => ?_)
  · refine a_iconst (kX1_agreeBehind.at 23 rfl) rfl ?_
    exact a_zretE (kX1_agreeBehind.at 24 rfl) (by first | exact Or.inl rfl | exact Or.inr rfl | omega) (⟨by first | exact (bI_0 (fun z => ((agreed_iff K q a b).mp z).1 (sa.symm.trans h7))).symm | exact (bI_0 (fun z => ((agreed_iff K q a b).mp z).2.1 (sb.symm.trans h17))).symm | exact (bI_0 (fun z => h32 ((agreed_iff K q a b).mp z).2.2)).symm | exact (bI_1 ((agreed_iff K q a b).mpr ⟨fun z => h7 (sa.trans z), fun z => h17 (sb.trans z), h32⟩)).symm, rfl⟩)
  · refine a_aload_n (kX1_agreeBehind.at 6 rfl) 0 rfl ?_
    refine a_getR (kX1_agreeBehind.at 7 rfl) fg_X1_9 (iR_C0 ht) ?_
    refine a_iload_n (kX1_agreeBehind.at 8 rfl) 3 rfl ?_
    refine a_iald (x := M (24 + 8 * t) b) (kX1_agreeBehind.at 9 rfl) (iA_C0 ht) (by omega) (rfl) ?_
    refine a_iconst (kX1_agreeBehind.at 10 rfl) rfl ?_
    refine a_icmpeq (tgt := 39) (kX1_agreeBehind.at 11 rfl) (by decide) (fun h17 => ?_) (fun h17 => ?_)
    · refine a_iconst (kX1_agreeBehind.at 23 rfl) rfl ?_
      exact a_zretE (kX1_agreeBehind.at 24 rfl) (by first | exact Or.inl rfl | exact Or.inr rfl | omega) (⟨by first | exact (bI_0 (fun z => ((agreed_iff K q a b).mp z).1 (sa.symm.trans h7))).symm | exact (bI_0 (fun z => ((agreed_iff K q a b).mp z).2.1 (sb.symm.trans h17))).symm | exact (bI_0 (fun z => h32 ((agreed_iff K q a b).mp z).2.2)).symm | exact (bI_1 ((agreed_iff K q a b).mpr ⟨fun z => h7 (sa.trans z), fun z => h17 (sb.trans z), h32⟩)).symm, rfl⟩)
    · refine a_aload_n (kX1_agreeBehind.at 12 rfl) 0 rfl ?_
      refine a_iload_n (kX1_agreeBehind.at 13 rfl) 1 rfl ?_
      refine a_iload_n (kX1_agreeBehind.at 14 rfl) 2 rfl ?_
      refine AW.callV (as := [vI q, vI a]) (st := []) (kX1_agreeBehind.at 15 rfl) ml_X1_125 sv_X1_viewsBehind (k := (4 + t)) (iO_C ht) rfl rfl ⟨Nat.le_of_ble_eq_true rfl, Nat.le_of_ble_eq_true rfl⟩ ⟨Nat.le_refl _, Nat.le_refl _⟩ rfl rfl (Nat.le_of_ble_eq_true rfl) (k_viewsBehind G M K t q a ht hT h8 hq ha) (kIE ?_)
      refine a_aload_n (kX1_agreeBehind.at 16 rfl) 0 rfl ?_
      refine a_iload_n (kX1_agreeBehind.at 17 rfl) 1 rfl ?_
      refine a_iload_n (kX1_agreeBehind.at 18 rfl) 3 rfl ?_
      refine AW.callV (as := [vI q, vI b]) (st := [vI (K 57 (8 * q + a))]) (kX1_agreeBehind.at 19 rfl) ml_X1_125 sv_X1_viewsBehind (k := (4 + t)) (iO_C ht) rfl rfl ⟨Nat.le_of_ble_eq_true rfl, Nat.le_of_ble_eq_true rfl⟩ ⟨Nat.le_refl _, Nat.le_refl _⟩ rfl rfl (Nat.le_of_ble_eq_true rfl) (k_viewsBehind G M K t q b ht hT h8 hq hb) (kIE ?_)
      refine a_icmpne (tgt := 39) (kX1_agreeBehind.at 20 rfl) (by decide) (fun h32 => ?_) (fun h32 => ?_)
      · refine a_iconst (kX1_agreeBehind.at 23 rfl) rfl ?_
        exact a_zretE (kX1_agreeBehind.at 24 rfl) (by first | exact Or.inl rfl | exact Or.inr rfl | omega) (⟨by first | exact (bI_0 (fun z => ((agreed_iff K q a b).mp z).1 (sa.symm.trans h7))).symm | exact (bI_0 (fun z => ((agreed_iff K q a b).mp z).2.1 (sb.symm.trans h17))).symm | exact (bI_0 (fun z => h32 ((agreed_iff K q a b).mp z).2.2)).symm | exact (bI_1 ((agreed_iff K q a b).mpr ⟨fun z => h7 (sa.trans z), fun z => h17 (sb.trans z), h32⟩)).symm, rfl⟩)
      · refine a_iconst (kX1_agreeBehind.at 21 rfl) rfl ?_
        refine a_goto (tgt := 40) (kX1_agreeBehind.at 22 rfl) (by decide) ?_
        exact a_zretE (kX1_agreeBehind.at 24 rfl) (by first | exact Or.inl rfl | exact Or.inr rfl | omega) (⟨by first | exact (bI_0 (fun z => ((agreed_iff K q a b).mp z).1 (sa.symm.trans h7))).symm | exact (bI_0 (fun z => ((agreed_iff K q a b).mp z).2.1 (sb.symm.trans h17))).symm | exact (bI_0 (fun z => h32 ((agreed_iff K q a b).mp z).2.2)).symm | exact (bI_1 ((agreed_iff K q a b).mpr ⟨fun z => h7 (sa.trans z), fun z => h17 (sb.trans z), h32⟩)).symm, rfl⟩)
theorem k_nearBehind (G : GT) (M K : Mem) (t : Nat) (q a b : Int) (ht : t < 2) (hT : TR M t K 16) (h8 : K 44 7 ≤ 8) (hq : 0 ≤ q ∧ q ≤ 15) (ha : 0 ≤ a ∧ a < K 44 7) (hb : 0 ≤ b ∧ b < K 44 7) : AM G yX1_nearBehind cX1_nearBehind 4 (some .boolean) 1 M [vR (4 + t), vI q, vI a, vI b] (qI (bI (apart (K 56 (8 * q + a)) (K 56 (8 * q + b)) = 1)) M) := by
  refine AM.mk (own := RX1) rfl sv_X1_nearBehind.1.2.2.2.2.2 (Nat.le_of_ble_eq_true rfl) rfl ?_
  have ra := (hT q a hq.1 (by omega) ha.1 ha.2).2.1
  have rb := (hT q b hq.1 (by omega) hb.1 hb.2).2.1
  refine a_aload_n (kX1_nearBehind.at 0 rfl) 0 rfl ?_
  refine a_iload_n (kX1_nearBehind.at 1 rfl) 1 rfl ?_
  refine a_iload_n (kX1_nearBehind.at 2 rfl) 2 rfl ?_
  refine AW.callV (as := [vI q, vI a]) (st := []) (kX1_nearBehind.at 3 rfl) ml_X1_128 sv_X1_homeBehind (k := (4 + t)) (iO_C ht) rfl rfl ⟨Nat.le_of_ble_eq_true rfl, Nat.le_of_ble_eq_true rfl⟩ ⟨Nat.le_refl _, Nat.le_refl _⟩ rfl rfl (Nat.le_of_ble_eq_true rfl) (k_homeBehind G M K t q a ht hT h8 hq ha) (kIE ?_)
  refine a_aload_n (kX1_nearBehind.at 4 rfl) 0 rfl ?_
  refine a_iload_n (kX1_nearBehind.at 5 rfl) 1 rfl ?_
  refine a_iload_n (kX1_nearBehind.at 6 rfl) 3 rfl ?_
  refine AW.callV (as := [vI q, vI b]) (st := [vI (K 56 (8 * q + a))]) (kX1_nearBehind.at 7 rfl) ml_X1_128 sv_X1_homeBehind (k := (4 + t)) (iO_C ht) rfl rfl ⟨Nat.le_of_ble_eq_true rfl, Nat.le_of_ble_eq_true rfl⟩ ⟨Nat.le_refl _, Nat.le_refl _⟩ rfl rfl (Nat.le_of_ble_eq_true rfl) (k_homeBehind G M K t q b ht hT h8 hq hb) (kIE ?_)
  refine a_isub (kX1_nearBehind.at 8 rfl) (inr (by omega)) ?_
  refine a_abs (kX1_nearBehind.at 9 rfl) ml_X1_120 ⟨Nat.le_of_ble_eq_true rfl, Nat.le_of_ble_eq_true rfl⟩ ⟨Nat.le_refl _, Nat.le_refl _⟩ (by omega) ?_
  refine a_iconst (kX1_nearBehind.at 10 rfl) rfl ?_
  refine a_icmpne (tgt := 24) (kX1_nearBehind.at 11 rfl) (by decide) (fun h17 => ?_) (fun h17 => ?_)
  · refine a_iconst (kX1_nearBehind.at 14 rfl) rfl ?_
    exact a_zretE (kX1_nearBehind.at 15 rfl) (by first | exact Or.inl rfl | exact Or.inr rfl | omega) (⟨by rw [abs_apart] at h17; first | exact (bI_0 h17).symm | exact (bI_1 h17).symm, rfl⟩)
  · refine a_iconst (kX1_nearBehind.at 12 rfl) rfl ?_
    refine a_goto (tgt := 25) (kX1_nearBehind.at 13 rfl) (by decide) ?_
    exact a_zretE (kX1_nearBehind.at 15 rfl) (by first | exact Or.inl rfl | exact Or.inr rfl | omega) (⟨by rw [abs_apart] at h17; first | exact (bI_0 h17).symm | exact (bI_1 h17).symm, rfl⟩)
