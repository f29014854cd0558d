/-! ===== the class: a course runs ===== -/
noncomputable def bgN (M : Mem) (t : Nat) : Mem := upm (upm (upm (upm (upm (upm M (4 + t) 9 0) (4 + t) 10 0) (4 + t) 11 0) (4 + t) 12 (-1)) (4 + t) 13 (-1)) (4 + t) 14 0
theorem bgN_r (M : Mem) {t : Nat} (ht : t < 2) : (∀ (c : Nat) (x : Int), ¬ (c = 4 + t ∧ 9 ≤ x ∧ x ≤ 14) → bgN M t c x = M c x) ∧ (bgN M t (4 + t) 8 = M (4 + t) 8 ∧ bgN M t (4 + t) 9 = 0 ∧ bgN M t (4 + t) 10 = 0 ∧ bgN M t (4 + t) 11 = 0 ∧ bgN M t (4 + t) 12 = -1 ∧ bgN M t (4 + t) 13 = -1 ∧ bgN M t (4 + t) 14 = 0) := by
  refine ⟨fun c x z => ?_, ?_⟩
  · unfold bgN
    by_cases e : c = 4 + t
    · rw [e, rd_ni (by omega), rd_ni (by omega), rd_ni (by omega), rd_ni (by omega), rd_ni (by omega), rd_ni (by omega)]
    · rw [rd_ne e, rd_ne e, rd_ne e, rd_ne e, rd_ne e, rd_ne e]
  · rcases (show t = 0 ∨ t = 1 by omega) with rfl | rfl <;> exact ⟨rfl, rfl, rfl, rfl, rfl, rfl, rfl⟩
theorem LD.of {M N R : Mem} {t : Nat} (h : LD M t R) (e8 : N (4 + t) 8 = M (4 + t) 8) (e : ∀ (c : Nat) (x : Int), 24 + 8 * t ≤ c → c ≤ 27 + 8 * t → N c x = M c x) : LD N t R := by
  refine ⟨e8.trans h.1, fun p a b => ?_, fun q a b => ?_⟩
  · rw [e _ _ (by omega) (by omega), e _ _ (by omega) (by omega), e _ _ (by omega) (by omega)]
    exact h.2.1 p a b
  · rw [e _ _ (by omega) (by omega)]
    exact h.2.2 q a b
theorem k_begin (G : GT) (M R : Mem) (t : Nat) (ht : t < 2) (hL : LD M t R) (hI : IR R) : AM G yX1_begin cX1_begin 2 none 1 M [vR (4 + t)] (pV fun N => SC N t (lives0 R) ∧ Fm t M N) := by
  refine AM.mk (own := RX1) rfl sv_X1_begin.1.2.2.2.2.2 (Nat.le_of_ble_eq_true rfl) rfl ?_
  have hb := bgN_r M ht
  have hp8 := hI.1
  have e8 := hL.1
  refine a_aload_n (kX1_begin.at 0 rfl) 0 rfl ?_
  refine a_iconst (kX1_begin.at 1 rfl) rfl ?_
  refine a_putI (j := 9) (kX1_begin.at 2 rfl) fp_X1_97 (iI_C9 ht) rfl ?_
  refine a_aload_n (kX1_begin.at 3 rfl) 0 rfl ?_
  refine a_iconst (kX1_begin.at 4 rfl) rfl ?_
  refine a_putI (j := 10) (kX1_begin.at 5 rfl) fp_X1_100 (iI_C10 ht) rfl ?_
  refine a_aload_n (kX1_begin.at 6 rfl) 0 rfl ?_
  refine a_iconst (kX1_begin.at 7 rfl) rfl ?_
  refine a_putI (j := 11) (kX1_begin.at 8 rfl) fp_X1_103 (iI_C11 ht) rfl ?_
  refine a_aload_n (kX1_begin.at 9 rfl) 0 rfl ?_
  refine a_iconst (kX1_begin.at 10 rfl) rfl ?_
  refine a_putI (j := 12) (kX1_begin.at 11 rfl) fp_X1_36 (iI_C12 ht) rfl ?_
  refine a_aload_n (kX1_begin.at 12 rfl) 0 rfl ?_
  refine a_iconst (kX1_begin.at 13 rfl) rfl ?_
  refine a_putI (j := 13) (kX1_begin.at 14 rfl) fp_X1_40 (iI_C13 ht) rfl ?_
  refine a_aload_n (kX1_begin.at 15 rfl) 0 rfl ?_
  refine a_iconst (kX1_begin.at 16 rfl) rfl ?_
  refine a_putI (j := 14) (kX1_begin.at 17 rfl) fp_X1_106 (iI_C14 ht) rfl ?_
  refine AW.mem (M' := bgN M t) (rfl) ?_
  refine a_aload_n (kX1_begin.at 18 rfl) 0 rfl ?_
  refine a_getR (kX1_begin.at 19 rfl) fg_X1_30 (iR_C6 ht) ?_
  refine a_iconst (kX1_begin.at 20 rfl) rfl ?_
  refine AW.callS (as := [vR (30 + 8 * t), vI (-1)]) (st := []) (kX1_begin.at 21 rfl) ml_X1_52 ss_J7_fill_53178 ⟨Nat.le_of_ble_eq_true rfl, Nat.le_of_ble_eq_true rfl⟩ ⟨Nat.le_refl _, Nat.le_refl _⟩ rfl rfl (Nat.le_of_ble_eq_true rfl) (k_fill G (bgN M t) (30 + 8 * t) 12 (-1) (iA_C6 ht) ⟨by decide, by decide⟩) (kV fun N0 hN => ?_)
  skip
  have g : ∀ (c : Nat) (x : Int), c ≠ 30 + 8 * t → ¬ (c = 4 + t ∧ 9 ≤ x ∧ x ≤ 14) → N0 c x = M c x := fun c x z1 z2 => by rw [hN.1 c z1]; exact hb.1 c x z2
  have g8 := g (4 + t) 8 (by omega) (by omega)
  have hL0 : LD N0 t R := hL.of g8 (fun c x z1 z2 => g c x (by omega) (by omega))
  have hh0 : ∀ p, 0 ≤ p → p < N0 (4 + t) 8 → 0 ≤ N0 (26 + 8 * t) p ∧ N0 (26 + 8 * t) p ≤ 9 := fun p a b => by
    rw [(hL0.2.1 p a (by omega)).2.2]
    exact (hI.2.1 p a (by omega)).2
  have hw0 : ∀ i, 0 ≤ i → i ≤ 11 → N0 (30 + 8 * t) i = -1 := fun i a b => by rw [hN.2 i, if_pos (by omega)]
  have hf0 : N0 (4 + t) = bgN M t (4 + t) := hN.1 (4 + t) (by omega)
  refine a_iconst (kX1_begin.at 22 rfl) rfl ?_
  refine a_istore_n (ls' := [(0, vR (4 + t)), (1, vI 0)]) (kX1_begin.at 23 rfl) (by decide) rfl ?_
  refine l_begin G N0 t _ ht (by omega) hh0 hw0 (by omega) ?_
  intro N1 hV hZ hC
  show AW _ _ _ _ _ _ 82 [(0, vR (4 + t)), (1, vI (N0 (4 + t) 8))] [] N1
  have c4 : N1 (4 + t) = bgN M t (4 + t) := (funext fun x => hC (4 + t) x (by omega) (by omega) (by omega)).trans hf0
  rw [hL0.1] at hV hZ
  exact a_vret (kX1_begin.at 50 rfl) (⟨SC_begin hL0 hI hV hZ (by rw [c4, hf0]; exact ⟨rfl, hb.2.2⟩) (fun p => ⟨hC _ _ (by omega) (by omega) (by omega), hC _ _ (by omega) (by omega) (by omega), hC _ _ (by omega) (by omega) (by omega)⟩), fun c x z1 z2 z3 z4 z5 z6 => by rw [hC c x z3 z4 z5, g c x z5 z6]⟩)
theorem plW_Fr {R K : Mem} (h : Fr R K) (q : Int) : plW K q = plW R q := by
  have e : plW1 K q = plW1 R q := by
    unfold plW1
    rw [h 44 9 (by decide) (by omega)]
    refine forR_cong fun e w _ _ => ?_
    unfold plE
    rw [h 51 _ (by decide) (by omega), h 51 _ (by decide) (by omega), h 51 _ (by decide) (by omega), h 44 11 (by decide) (by omega)]
  unfold plW
  rw [e, h 44 12 (by decide) (by omega), h 44 13 (by decide) (by omega), h 44 14 (by decide) (by omega)]
theorem EV.Fr {R K : Mem} (hE : EV R) (h : Fr R K) : EV K := by
  have e9 := h 44 9 (by decide) (by omega)
  refine ⟨by rw [e9]; exact hE.1, fun i a b => ?_, ?_⟩
  · rw [h 51 _ (by decide) (by omega), h 51 _ (by decide) (by omega), h 51 _ (by decide) (by omega)]
    exact hE.2.1 i a (by rw [e9] at b; exact b)
  · rw [h 44 12 (by decide) (by omega), h 44 13 (by decide) (by omega), h 44 14 (by decide) (by omega)]
    exact hE.2.2
/-! holidays -/
theorem pCm_23 (k : Int) (K : Mem) : pCm k K 44 23 = K 44 23 := by
  unfold pCm
  split
  · unfold comes
    split
    · rfl
    · rfl
  · rfl
theorem knocks_23 (q k : Int) (K : Mem) : knocks K q k 44 23 = K 44 23 := by
  unfold knocks
  split
  · split
    · rfl
    · rfl
  · rfl
theorem pass3_23 (K : Mem) (q : Int) : pass3 K q 44 23 = pass2 K q 44 23 := by
  unfold pass3
  by_cases h : 0 ≤ K 44 7
  · exact forR_inv (fun _ (N : Mem) => N 44 23 = pass2 K q 44 23) h rfl (fun k N _ _ hN => (pCm_23 k N).trans hN)
  · rw [forR_nil (by omega)]
theorem pass4_hol {K : Mem} {q : Int} (h : pass3 K q 44 23 ≠ 0) : pass4 K q = pass3 K q := by
  unfold pass4
  by_cases hp : 0 ≤ K 44 7
  · refine forR_inv (fun _ (N : Mem) => N = pass3 K q) hp rfl (fun k N _ _ hN => ?_)
    unfold pKn
    rw [hN, if_neg h]
  · rw [forR_nil (by omega)]
theorem pass4_kn {K : Mem} {q : Int} (h : pass3 K q 44 23 = 0) : pass4 K q = forR 0 (K 44 7) (fun k N => knocks N q k) (pass3 K q) := by
  unfold pass4
  by_cases hp : 0 ≤ K 44 7
  · refine (forR_rel (lo := 0) (hi := K 44 7) (f := pKn q) (g := fun k N => knocks N q k) (a := pass3 K q) (b := pass3 K q) (fun _ (x y : Mem) => x = y ∧ y 44 23 = 0) hp ⟨rfl, h⟩ (fun k x y _ _ hxy => ?_)).1
    obtain ⟨rfl, h2⟩ := hxy
    refine ⟨?_, (knocks_23 q k x).trans h2⟩
    unfold pKn
    rw [if_pos h2]
  · rw [forR_nil (by omega), forR_nil (by omega)]
theorem SC.of {N K K' : Mem} {t : Nat} (h : SC N t K) (e : ∀ c : Nat, ¬ (56 ≤ c ∧ c ≤ 59) → K' c = K c) : SC N t K' := by
  obtain ⟨h1, h2, h3, h4, h5, h6⟩ := h
  have e44 := e 44 (by omega)
  have e52 := e 52 (by omega)
  have e54 := e 54 (by omega)
  have w := fun x => whoIn_same (K := K) (N := K') (by rw [e44]) e52 x
  have m := movesNow_same (K := K) (N := K') (by rw [e44]) e54
  refine ⟨by rw [e44]; exact h1, fun p a b => ?_, fun i a b => by rw [w]; exact h3 i a b, by rw [m, e44]; exact h4, h5, fun p a b => by rw [e44, e54]; exact h6 p a b⟩
  rw [e44] at b
  rw [e 50 (by omega), e 53 (by omega), e52, e54, e 55 (by omega)]
  exact h2 p a b
theorem SR.of {K K' : Mem} {q i j : Int} (h : SR K q i j) (e : ∀ c : Nat, ¬ (56 ≤ c ∧ c ≤ 59) → K' c = K c) : SR K' q i j := by
  have e44 := e 44 (by omega)
  have e54 := e 54 (by omega)
  have m := movesNow_same (K := K) (N := K') (by rw [e44]) e54
  unfold SR DI
  rw [m, e44, e 52 (by omega), e 53 (by omega), e54, e 55 (by omega)]
  exact h
/-- what is kept of the quarters before q -/
noncomputable def TR (N : Mem) (t : Nat) (K : Mem) (q : Int) : Prop := ∀ x p, 0 ≤ x → x < q → 0 ≤ p → p < K 44 7 → N (31 + 8 * t) (8 * x + p) = pk (K 56 (8 * x + p)) (K 57 (8 * x + p)) (K 58 (8 * x + p)) (K 59 (8 * x + p)) ∧ (0 ≤ K 56 (8 * x + p) ∧ K 56 (8 * x + p) ≤ 9) ∧ (0 ≤ K 57 (8 * x + p) ∧ K 57 (8 * x + p) ≤ 7) ∧ (0 ≤ K 58 (8 * x + p) ∧ K 58 (8 * x + p) ≤ 16) ∧ (0 ≤ K 59 (8 * x + p) ∧ K 59 (8 * x + p) ≤ 16)
