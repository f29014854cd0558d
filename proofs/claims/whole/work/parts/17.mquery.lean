/-! ===== what is kept behind each quarter ===== -/
noncomputable def Fh (M N : Mem) : Prop := ∀ c : Nat, 56 ≤ c → c ≤ 59 → N c = M c
theorem Fh.refl (M : Mem) : Fh M M := fun _ _ _ => rfl
theorem Fh.trans {M N K : Mem} (h1 : Fh M N) (h2 : Fh N K) : Fh M K := fun c a b => (h2 c a b).trans (h1 c a b)
theorem Fh.up {M N : Mem} (h : Fh M N) {c : Nat} {j v : Int} (hc : c < 56 ∨ 59 < c) : Fh M (upm N c j v) := fun c' a b => by
  rw [upm_ne (by omega)]
  exact h c' a b
theorem Fh.for {M N : Mem} {lo hi : Int} {f : Int → Mem → Mem} (h : Fh M N) (hf : ∀ k K, Fh K (f k K)) : Fh M (forR lo hi f N) := by
  by_cases hl : lo ≤ hi
  · exact forR_inv (fun _ K => Fh M K) hl h (fun k K _ _ hK => hK.trans (hf k K))
  · rw [forR_nil (by omega)]; exact h
theorem Fh_happens (M : Mem) (kind k : Int) : Fh M (happens M kind k) := by
  unfold happens
  split
  · exact (Fh.refl M).up (by omega)
  · split
    · exact (Fh.refl M).up (by omega)
    · exact Fh.refl M
theorem Fh_comes (M : Mem) (k : Int) : Fh M (comes M k) := by
  unfold comes comesX
  split
  · exact Fh.refl M
  · exact ((Fh.refl M).up (by omega)).up (by omega)
theorem Fh_knocks (M : Mem) (q k : Int) : Fh M (knocks M q k) := by
  unfold knocks knocksX
  split
  · split
    · exact (Fh.refl M).up (by omega)
    · exact (((((Fh.refl M).up (by omega)).up (by omega)).up (by omega)).up (by omega)).up (by omega)
  · exact Fh.refl M
theorem Fh_pass1 (M : Mem) (q : Int) : Fh M (pass1 M q) := Fh.for ((Fh.refl M).up (by omega)) (fun k K => by
  unfold pEv
  split
  · exact Fh_happens _ _ _
  · exact Fh.refl K)
theorem Fh_pass2 (M : Mem) (q : Int) : Fh M (pass2 M q) := by
  unfold pass2
  split
  · exact (Fh_pass1 M q).trans (Fh_happens _ _ _)
  · exact Fh_pass1 M q
theorem Fh_pass3 (M : Mem) (q : Int) : Fh M (pass3 M q) := Fh.for (Fh_pass2 M q) (fun k K => by
  unfold pCm
  split
  · exact Fh_comes _ _
  · exact Fh.refl K)
theorem Fh_pass4 (M : Mem) (q : Int) : Fh M (pass4 M q) := Fh.for (Fh_pass3 M q) (fun k K => by
  unfold pKn
  split
  · exact Fh_knocks _ _ _
  · exact Fh.refl K)
theorem pRc_all (N : Mem) (q n : Int) (hn : 0 ≤ n) : (∀ c : Nat, ¬ (56 ≤ c ∧ c ≤ 59) → forR 0 n (pRc q) N c = N c) ∧ (∀ (d : Nat) (j : Int), d < 4 → forR 0 n (pRc q) N (56 + d) j = if 8 * q ≤ j ∧ j < 8 * q + n then N (52 + d) (j - 8 * q) else N (56 + d) j) := by
  refine forR_inv (lo := 0) (hi := n) (fun i (K : Mem) => (∀ c : Nat, ¬ (56 ≤ c ∧ c ≤ 59) → K c = N c) ∧ (∀ (d : Nat) (j : Int), d < 4 → K (56 + d) j = if 8 * q ≤ j ∧ j < 8 * q + i then N (52 + d) (j - 8 * q) else N (56 + d) j)) hn ⟨fun _ _ => rfl, fun d j hd => by rw [if_neg (by omega)]⟩ ?_
  intro i K h1 h2 hK
  refine ⟨fun c hc => ?_, fun d j hd => ?_⟩
  · unfold pRc
    rw [upm_ne (by omega), upm_ne (by omega), upm_ne (by omega), upm_ne (by omega)]
    exact hK.1 c hc
  · have e : pRc q i K (56 + d) j = if j = 8 * q + i then K (52 + d) i else K (56 + d) j := by
      unfold pRc
      rcases (show d = 0 ∨ d = 1 ∨ d = 2 ∨ d = 3 by omega) with rfl | rfl | rfl | rfl <;> rfl
    rw [e, hK.1 (52 + d) (by omega), hK.2 d j hd]
    by_cases hj : j = 8 * q + i
    · rw [if_pos hj, if_pos (by omega), show j - 8 * q = i by omega]
    · rw [if_neg hj]
      by_cases h3 : 8 * q ≤ j ∧ j < 8 * q + i
      · rw [if_pos h3, if_pos (by omega)]
      · rw [if_neg h3, if_neg (by omega)]
/-- behind a quarter: what is kept of it, and of the others -/
theorem passes_by (M : Mem) (q : Int) (hp : 0 ≤ M 44 7) : (∀ c : Nat, ¬ (56 ≤ c ∧ c ≤ 59) → passes M q c = pass4 M q c) ∧ (∀ (d : Nat) (j : Int), d < 4 → passes M q (56 + d) j = if 8 * q ≤ j ∧ j < 8 * q + M 44 7 then pass4 M q (52 + d) (j - 8 * q) else M (56 + d) j) := by
  have h := pRc_all (pass4 M q) q (M 44 7) hp
  refine ⟨h.1, fun d j hd => ?_⟩
  have := h.2 d j hd
  rw [Fh_pass4 M q (56 + d) (by omega) (by omega)] at this
  exact this
/-- houses that are kept are houses -/
noncomputable def HB (M : Mem) : Prop := (0 ≤ M 44 7 ∧ M 44 7 ≤ 8) ∧ ∀ q k, 0 ≤ q → q ≤ 15 → 0 ≤ k → k < M 44 7 → 0 ≤ M 56 (8 * q + k) ∧ M 56 (8 * q + k) ≤ 9
theorem lives_HB {M : Mem} (h : PG M) : HB (lives M) := by
  have hp := h.1
  have e7 : lives M 44 7 = M 44 7 := (Fr_lives M).people
  refine ⟨by rw [e7]; exact hp, ?_⟩
  rw [e7]
  have key : ∀ q' k, 0 ≤ q' → q' < 16 → 0 ≤ k → k < M 44 7 → 0 ≤ livesQ M 16 56 (8 * q' + k) ∧ livesQ M 16 56 (8 * q' + k) ≤ 9 := by
    have := forR_inv (lo := 0) (hi := 16) (f := fun q N => passes N q) (a := lives0 M) (fun q N => (Fr M N ∧ RG N (16 * q)) ∧ ∀ q' k, 0 ≤ q' → q' < q → 0 ≤ k → k < M 44 7 → 0 ≤ N 56 (8 * q' + k) ∧ N 56 (8 * q' + k) ≤ 9) (by omega) ⟨⟨Fr_lives0 M, by simpa using RG_lives0 h⟩, fun q' k a b => by omega⟩ (fun q N h1 h2 hN => ⟨⟨hN.1.1.trans (Fr_passes N q), (RG_passes hN.1.2 q).mono (by omega)⟩, fun q' k a b c d => ?_⟩)
    · exact this.2
    · have e := hN.1.1.people
      have hb := (passes_by N q (by omega)).2 0 (8 * q' + k) (by omega)
      show 0 ≤ passes N q (56 + 0) (8 * q' + k) ∧ passes N q (56 + 0) (8 * q' + k) ≤ 9
      rw [hb]
      split
      · rename_i hc
        have h4 := RG_pass4k hN.1.2 q (N 44 7) (by omega)
        have := h4.2.1 (8 * q' + k - 8 * q) (by omega) (by
          have e4 := (Fr_pass4 N q).people
          show _ < pass4 N q 44 7
          omega)
        exact this.1
      · exact hN.2 q' k a (by omega) c d
  intro q k a b c d
  rw [lives_eq]
  exact key q k a (by omega) c d
theorem lives_RG {M : Mem} (h : PG M) : RG (lives M) 256 := by rw [lives_eq]; exact RG_livesQ h 16 (by omega)
theorem find_HB {M : Mem} (hI : MI M) : HB (find M) := lives_HB (reads_PG M hI.1)
theorem find_RG {M : Mem} (hI : MI M) : RG (find M) 256 := lives_RG (reads_PG M hI.1)
/-! ===== the reference: questions about quarters ===== -/
noncomputable def atBy (M : Mem) (q k w : Int) : Int := if w = 0 then M 56 (8 * q + k) else if w = 1 then M 57 (8 * q + k) else if w = 2 then M 58 (8 * q + k) else M 59 (8 * q + k)
theorem c_atBy (G : GT) (M : Mem) (q k w : Int) (hq : 0 ≤ q ∧ q ≤ 15) (hk : 0 ≤ k ∧ k ≤ 7) : AM G yX6_atBy cX6_atBy 5 (some .int) 0 M [vR 44, vI q, vI k, vI w] (qI (atBy M q k w) M) := by
  refine AM.mk (own := RX6) rfl sv_X6_atBy.1.2.2.2.2.2 (Nat.le_of_ble_eq_true rfl) rfl ?_
  refine a_bipush (kX6_atBy.at 0 rfl) rfl rfl ?_
  refine a_iload_n (kX6_atBy.at 1 rfl) 1 rfl ?_
  refine a_imul (kX6_atBy.at 2 rfl) (inr (by omega)) ?_
  refine a_iload_n (kX6_atBy.at 3 rfl) 2 rfl ?_
  refine a_iadd (kX6_atBy.at 4 rfl) (inr (by omega)) ?_
  refine a_istore (ls' := [(0, vR 44), (1, vI q), (2, vI k), (3, vI w), (4, vI ((8 * q) + k))]) (kX6_atBy.at 5 rfl) (by decide) rfl ?_
  refine a_iload_n (kX6_atBy.at 6 rfl) 3 rfl ?_
  rcases sw0_2 (x := w) with h9_0 | h9_1 | h9_2 | h9_d
  · refine a_tabIn (off := 27) (tgt := 36) (kX6_atBy.at 7 rfl) (by omega) (by omega) (by rw [h9_0]; rfl) (by decide) ?_
    refine a_aload_n (kX6_atBy.at 8 rfl) 0 rfl ?_
    refine a_getR (kX6_atBy.at 9 rfl) fg_X6_43 ir_44_19 ?_
    refine a_iload (kX6_atBy.at 10 rfl) 4 rfl ?_
    refine a_iald (x := M 56 ((8 * q) + k)) (kX6_atBy.at 11 rfl) (ia_56) (by omega) (rfl) ?_
    exact a_iretE (kX6_atBy.at 12 rfl) (⟨by unfold atBy; (repeat' split) <;> first | (exfalso; omega) | rfl, rfl⟩)
  · refine a_tabIn (off := 35) (tgt := 44) (kX6_atBy.at 7 rfl) (by omega) (by omega) (by rw [h9_1]; rfl) (by decide) ?_
    refine a_aload_n (kX6_atBy.at 13 rfl) 0 rfl ?_
    refine a_getR (kX6_atBy.at 14 rfl) fg_X6_46 ir_44_20 ?_
    refine a_iload (kX6_atBy.at 15 rfl) 4 rfl ?_
    refine a_iald (x := M 57 ((8 * q) + k)) (kX6_atBy.at 16 rfl) (ia_57) (by omega) (rfl) ?_
    exact a_iretE (kX6_atBy.at 17 rfl) (⟨by unfold atBy; (repeat' split) <;> first | (exfalso; omega) | rfl, rfl⟩)
  · refine a_tabIn (off := 43) (tgt := 52) (kX6_atBy.at 7 rfl) (by omega) (by omega) (by rw [h9_2]; rfl) (by decide) ?_
    refine a_aload_n (kX6_atBy.at 18 rfl) 0 rfl ?_
    refine a_getR (kX6_atBy.at 19 rfl) fg_X6_49 ir_44_21 ?_
    refine a_iload (kX6_atBy.at 20 rfl) 4 rfl ?_
    refine a_iald (x := M 58 ((8 * q) + k)) (kX6_atBy.at 21 rfl) (ia_58) (by omega) (rfl) ?_
    exact a_iretE (kX6_atBy.at 22 rfl) (⟨by unfold atBy; (repeat' split) <;> first | (exfalso; omega) | rfl, rfl⟩)
  · refine a_tabOut (tgt := 60) (kX6_atBy.at 7 rfl) (by omega) (by decide) ?_
    refine a_aload_n (kX6_atBy.at 23 rfl) 0 rfl ?_
    refine a_getR (kX6_atBy.at 24 rfl) fg_X6_52 ir_44_22 ?_
    refine a_iload (kX6_atBy.at 25 rfl) 4 rfl ?_
    refine a_iald (x := M 59 ((8 * q) + k)) (kX6_atBy.at 26 rfl) (ia_59) (by omega) (rfl) ?_
    exact a_iretE (kX6_atBy.at 27 rfl) (⟨by unfold atBy; (repeat' split) <;> first | (exfalso; omega) | rfl, rfl⟩)
noncomputable def o_at (M : Mem) (q k w : Int) : Int := if (0 ≤ q ∧ q ≤ 15) ∧ (0 ≤ k ∧ k ≤ find M 44 7 - 1) ∧ 0 ≤ w ∧ w ≤ 3 then atBy (find M) q k w else -2
theorem c_at (G : GT) (M : Mem) (q k w : Int) (hI : MI M) : AM G yX6_at cX6_at 4 (some .int) 6 M [vR 44, vI q, vI k, vI w] (qI (o_at M q k w) (find M)) := by
  refine AM.mk (own := RX6) rfl sv_X6_at.1.2.2.2.2.2 (Nat.le_of_ble_eq_true rfl) rfl ?_
  have hp := find_pr M hI
  refine a_aload_n (kX6_at.at 0 rfl) 0 rfl ?_
  refine AW.callV (as := []) (st := []) (kX6_at.at 1 rfl) ml_X6_203 sv_X6_find (k := 44) (io_44) rfl rfl ⟨Nat.le_of_ble_eq_true rfl, Nat.le_of_ble_eq_true rfl⟩ ⟨Nat.le_refl _, Nat.le_refl _⟩ rfl rfl (Nat.le_of_ble_eq_true rfl) (c_find G M hI) (kVE ?_)
  refine a_iload_n (kX6_at.at 2 rfl) 1 rfl ?_
  refine AW.callS (as := [vI q]) (st := []) (kX6_at.at 3 rfl) ml_X6_131 ss_X6_isQuarter ⟨Nat.le_of_ble_eq_true rfl, Nat.le_of_ble_eq_true rfl⟩ ⟨Nat.le_refl _, Nat.le_refl _⟩ rfl rfl (Nat.le_of_ble_eq_true rfl) (c_isQuarter G (find M) q) (kIE ?_)
  refine a_ifeqB (tgt := 41) (kX6_at.at 4 rfl) (by decide) (fun h8 => ?_) (fun h8 => ?_)
  · refine a_bipush (kX6_at.at 21 rfl) rfl rfl ?_
    exact a_iretE (kX6_at.at 22 rfl) (by first | (exfalso; omega) | (unfold o_at; (repeat' split) <;> first | (exfalso; omega) | exact ⟨rfl, rfl⟩))
  · refine a_aload_n (kX6_at.at 5 rfl) 0 rfl ?_
    refine a_iload_n (kX6_at.at 6 rfl) 2 rfl ?_
    refine AW.callV (as := [vI k]) (st := []) (kX6_at.at 7 rfl) ml_X6_125 sv_X6_isPerson (k := 44) (io_44) rfl rfl ⟨Nat.le_of_ble_eq_true rfl, Nat.le_of_ble_eq_true rfl⟩ ⟨Nat.le_refl _, Nat.le_refl _⟩ rfl rfl (Nat.le_of_ble_eq_true rfl) (c_isPerson G (find M) k (by omega)) (kIE ?_)
    refine a_ifeqB (tgt := 41) (kX6_at.at 8 rfl) (by decide) (fun h16 => ?_) (fun h16 => ?_)
    · refine a_bipush (kX6_at.at 21 rfl) rfl rfl ?_
      exact a_iretE (kX6_at.at 22 rfl) (by first | (exfalso; omega) | (unfold o_at; (repeat' split) <;> first | (exfalso; omega) | exact ⟨rfl, rfl⟩))
    · refine a_iload_n (kX6_at.at 9 rfl) 3 rfl ?_
      refine a_i2l (kX6_at.at 10 rfl) ?_
      refine a_lconst (kX6_at.at 11 rfl) 0 rfl rfl ?_
      refine a_ldc2 (kX6_at.at 12 rfl) cl_X6_77 (3) rfl ⟨by decide, by decide⟩ ?_
      refine AW.callS (as := [vL w, vL 0, vL 3]) (st := []) (kX6_at.at 13 rfl) ml_X6_70 ss_X6_in ⟨Nat.le_of_ble_eq_true rfl, Nat.le_of_ble_eq_true rfl⟩ ⟨Nat.le_refl _, Nat.le_refl _⟩ rfl rfl (Nat.le_of_ble_eq_true rfl) (c_in G (find M) w 0 3) (kIE ?_)
      refine a_ifeqB (tgt := 41) (kX6_at.at 14 rfl) (by decide) (fun h28 => ?_) (fun h28 => ?_)
      · refine a_bipush (kX6_at.at 21 rfl) rfl rfl ?_
        exact a_iretE (kX6_at.at 22 rfl) (by first | (exfalso; omega) | (unfold o_at; (repeat' split) <;> first | (exfalso; omega) | exact ⟨rfl, rfl⟩))
      · refine a_aload_n (kX6_at.at 15 rfl) 0 rfl ?_
        refine a_iload_n (kX6_at.at 16 rfl) 1 rfl ?_
        refine a_iload_n (kX6_at.at 17 rfl) 2 rfl ?_
        refine a_iload_n (kX6_at.at 18 rfl) 3 rfl ?_
        refine AW.callV (as := [vI q, vI k, vI w]) (st := []) (kX6_at.at 19 rfl) ml_X6_206 sv_X6_atBy (k := 44) (io_44) rfl rfl ⟨Nat.le_of_ble_eq_true rfl, Nat.le_of_ble_eq_true rfl⟩ ⟨Nat.le_refl _, Nat.le_refl _⟩ rfl rfl (Nat.le_of_ble_eq_true rfl) (c_atBy G (find M) q k w (by omega) (by omega)) (kIE ?_)
        refine a_goto (tgt := 43) (kX6_at.at 20 rfl) (by decide) ?_
        exact a_iretE (kX6_at.at 22 rfl) (by first | (exfalso; omega) | (unfold o_at; (repeat' split) <;> first | (exfalso; omega) | exact ⟨rfl, rfl⟩))
noncomputable def houseOf (M : Mem) (q h : Int) : Int := forR 0 (M 44 7) (fun k w => if M 56 (8 * q + k) = h then k else w) (-1)
set_option maxHeartbeats 4000000 in
set_option maxRecDepth 100000 in
theorem l_houseOf (G : GT) (M : Mem) (q h : Int) (X : XT) (hp : 0 ≤ M 44 7 ∧ M 44 7 ≤ 8) (hq : 0 ≤ q ∧ q ≤ 15) (hlohi : (0 : Int) ≤ (M 44 7)) (kk : AW G RX6 cX6_houseOf 5 (some .int) X 43 [(0, vR 44), (1, vI q), (2, vI h), (3, vI (forR 0 (M 44 7) (fun k w => if M 56 (8 * q + k) = h then k else w) (-1))), (4, vI (M 44 7))] [] M) : AW G RX6 cX6_houseOf 5 (some .int) X 5 [(0, vR 44), (1, vI q), (2, vI h), (3, vI (-1)), (4, vI 0)] [] M := by
  have key : ∀ (nn : Nat) (k : Int) (w : Int), (0 : Int) ≤ k → k ≤ (M 44 7) → w = forR 0 k (fun k w => if M 56 (8 * q + k) = h then k else w) (-1) → (M 44 7) - k < nn → AW G RX6 cX6_houseOf 5 (some .int) X 5 [(0, vR 44), (1, vI q), (2, vI h), (3, vI w), (4, vI k)] [] M := by
    intro nn
    induction nn with
    | zero => intro k w hk0 hk1 e_w  hn; omega
    | succ nn ih =>
      intro k w hk0 hk1 e_w  hn
      refine a_iload (kX6_houseOf.at 4 rfl) 4 rfl ?_
      refine a_aload_n (kX6_houseOf.at 5 rfl) 0 rfl ?_
      refine a_getI (x := M 44 7) (kX6_houseOf.at 6 rfl) fg_X6_105 ii_44_7 (rfl) ?_
      refine a_icmpge (tgt := 43) (kX6_houseOf.at 7 rfl) (by decide) (fun h11 => ?_) (fun h11 => ?_)
      · obtain rfl : k = M 44 7 := by omega
        subst e_w
        exact kk 
      · refine a_aload_n (kX6_houseOf.at 8 rfl) 0 rfl ?_
        refine a_getR (kX6_houseOf.at 9 rfl) fg_X6_43 ir_44_19 ?_
        refine a_bipush (kX6_houseOf.at 10 rfl) rfl rfl ?_
        refine a_iload_n (kX6_houseOf.at 11 rfl) 1 rfl ?_
        refine a_imul (kX6_houseOf.at 12 rfl) (inr (by omega)) ?_
        refine a_iload (kX6_houseOf.at 13 rfl) 4 rfl ?_
        refine a_iadd (kX6_houseOf.at 14 rfl) (inr (by omega)) ?_
        refine a_iald (x := M 56 ((8 * q) + k)) (kX6_houseOf.at 15 rfl) (ia_56) (by omega) (rfl) ?_
        refine a_iload_n (kX6_houseOf.at 16 rfl) 2 rfl ?_
        refine a_icmpne (tgt := 35) (kX6_houseOf.at 17 rfl) (by decide) (fun h27 => ?_) (fun h27 => ?_)
        · refine a_iload_n (kX6_houseOf.at 20 rfl) 3 rfl ?_
          refine a_istore_n (ls' := [(0, vR 44), (1, vI q), (2, vI h), (3, vI w), (4, vI k)]) (kX6_houseOf.at 21 rfl) (by decide) rfl ?_
          refine a_iinc (ls' := [(0, vR 44), (1, vI q), (2, vI h), (3, vI w), (4, vI (k + 1))]) (kX6_houseOf.at 22 rfl) 4 rfl (by decide) (inr (by omega)) rfl ?_
          refine a_goto (tgt := 5) (kX6_houseOf.at 23 rfl) (by decide) ?_
          exact ih ((k + 1)) (w) (by omega) (by omega) (by rw [forR_succ hk0, ← e_w] <;> (clear ih kk e_w; first | (exfalso; omega) | rfl | (simp [*] <;> omega))) (by omega)
        · refine a_iload (kX6_houseOf.at 18 rfl) 4 rfl ?_
          refine a_goto (tgt := 36) (kX6_houseOf.at 19 rfl) (by decide) ?_
          refine a_istore_n (ls' := [(0, vR 44), (1, vI q), (2, vI h), (3, vI k), (4, vI k)]) (kX6_houseOf.at 21 rfl) (by decide) rfl ?_
          refine a_iinc (ls' := [(0, vR 44), (1, vI q), (2, vI h), (3, vI k), (4, vI (k + 1))]) (kX6_houseOf.at 22 rfl) 4 rfl (by decide) (inr (by omega)) rfl ?_
          refine a_goto (tgt := 5) (kX6_houseOf.at 23 rfl) (by decide) ?_
          exact ih ((k + 1)) (k) (by omega) (by omega) (by rw [forR_succ hk0, ← e_w] <;> (clear ih kk e_w; first | (exfalso; omega) | rfl | (simp [*] <;> omega))) (by omega)
  exact key ((M 44 7) - (0) + 1 : Int).toNat (0) (-1) (Int.le_refl _) hlohi (forR_nil (Int.le_refl _)).symm  (by omega)
theorem c_houseOf (G : GT) (M : Mem) (q h : Int) (hp : 0 ≤ M 44 7 ∧ M 44 7 ≤ 8) (hq : 0 ≤ q ∧ q ≤ 15) : AM G yX6_houseOf cX6_houseOf 5 (some .int) 0 M [vR 44, vI q, vI h] (qI (houseOf M q h) M) := by
  refine AM.mk (own := RX6) rfl sv_X6_houseOf.1.2.2.2.2.2 (Nat.le_of_ble_eq_true rfl) rfl ?_
  refine a_iconst (kX6_houseOf.at 0 rfl) rfl ?_
  refine a_istore_n (ls' := [(0, vR 44), (1, vI q), (2, vI h), (3, vI (-1))]) (kX6_houseOf.at 1 rfl) (by decide) rfl ?_
  refine a_iconst (kX6_houseOf.at 2 rfl) rfl ?_
  refine a_istore (ls' := [(0, vR 44), (1, vI q), (2, vI h), (3, vI (-1)), (4, vI 0)]) (kX6_houseOf.at 3 rfl) (by decide) rfl ?_
  refine l_houseOf G M q h _ hp hq (by omega) ?_
  show AW _ _ _ _ _ _ 43 [(0, vR 44), (1, vI q), (2, vI h), (3, vI (houseOf M q h)), (4, vI (M 44 7))] [] M
  refine a_iload_n (kX6_houseOf.at 24 rfl) 3 rfl ?_
  exact a_iretE (kX6_houseOf.at 25 rfl) (⟨rfl, rfl⟩)
noncomputable def o_house (M : Mem) (q h : Int) : Int := if (0 ≤ q ∧ q ≤ 15) ∧ 0 ≤ h ∧ h ≤ 9 then houseOf (find M) q h else -2
theorem c_house (G : GT) (M : Mem) (q h : Int) (hI : MI M) : AM G yX6_house cX6_house 3 (some .int) 6 M [vR 44, vI q, vI h] (qI (o_house M q h) (find M)) := by
  refine AM.mk (own := RX6) rfl sv_X6_house.1.2.2.2.2.2 (Nat.le_of_ble_eq_true rfl) rfl ?_
  have hp := find_pr M hI
  refine a_aload_n (kX6_house.at 0 rfl) 0 rfl ?_
  refine AW.callV (as := []) (st := []) (kX6_house.at 1 rfl) ml_X6_203 sv_X6_find (k := 44) (io_44) rfl rfl ⟨Nat.le_of_ble_eq_true rfl, Nat.le_of_ble_eq_true rfl⟩ ⟨Nat.le_refl _, Nat.le_refl _⟩ rfl rfl (Nat.le_of_ble_eq_true rfl) (c_find G M hI) (kVE ?_)
  refine a_iload_n (kX6_house.at 2 rfl) 1 rfl ?_
  refine AW.callS (as := [vI q]) (st := []) (kX6_house.at 3 rfl) ml_X6_131 ss_X6_isQuarter ⟨Nat.le_of_ble_eq_true rfl, Nat.le_of_ble_eq_true rfl⟩ ⟨Nat.le_refl _, Nat.le_refl _⟩ rfl rfl (Nat.le_of_ble_eq_true rfl) (c_isQuarter G (find M) q) (kIE ?_)
  refine a_ifeqB (tgt := 27) (kX6_house.at 4 rfl) (by decide) (fun h8 => ?_) (fun h8 => ?_)
  · refine a_bipush (kX6_house.at 13 rfl) rfl rfl ?_
    exact a_iretE (kX6_house.at 14 rfl) (by first | (exfalso; omega) | (unfold o_house; (repeat' split) <;> first | (exfalso; omega) | exact ⟨rfl, rfl⟩))
  · refine a_iload_n (kX6_house.at 5 rfl) 2 rfl ?_
    refine AW.callS (as := [vI h]) (st := []) (kX6_house.at 6 rfl) ml_X6_209 ss_X6_isHouse ⟨Nat.le_of_ble_eq_true rfl, Nat.le_of_ble_eq_true rfl⟩ ⟨Nat.le_refl _, Nat.le_refl _⟩ rfl rfl (Nat.le_of_ble_eq_true rfl) (c_isHouse G (find M) h) (kIE ?_)
    refine a_ifeqB (tgt := 27) (kX6_house.at 7 rfl) (by decide) (fun h15 => ?_) (fun h15 => ?_)
    · refine a_bipush (kX6_house.at 13 rfl) rfl rfl ?_
      exact a_iretE (kX6_house.at 14 rfl) (by first | (exfalso; omega) | (unfold o_house; (repeat' split) <;> first | (exfalso; omega) | exact ⟨rfl, rfl⟩))
    · refine a_aload_n (kX6_house.at 8 rfl) 0 rfl ?_
      refine a_iload_n (kX6_house.at 9 rfl) 1 rfl ?_
      refine a_iload_n (kX6_house.at 10 rfl) 2 rfl ?_
      refine AW.callV (as := [vI q, vI h]) (st := []) (kX6_house.at 11 rfl) ml_X6_212 sv_X6_houseOf (k := 44) (io_44) rfl rfl ⟨Nat.le_of_ble_eq_true rfl, Nat.le_of_ble_eq_true rfl⟩ ⟨Nat.le_refl _, Nat.le_refl _⟩ rfl rfl (Nat.le_of_ble_eq_true rfl) (c_houseOf G (find M) q h (by omega) (by omega)) (kIE ?_)
      refine a_goto (tgt := 29) (kX6_house.at 12 rfl) (by decide) ?_
      exact a_iretE (kX6_house.at 14 rfl) (by first | (exfalso; omega) | (unfold o_house; (repeat' split) <;> first | (exfalso; omega) | exact ⟨rfl, rfl⟩))
noncomputable def agreed (M : Mem) (q a b : Int) : Bool := decide (M 50 (3 * a) ≠ 2 ∧ M 50 (3 * b) ≠ 2 ∧ M 57 (8 * q + a) = M 57 (8 * q + b))
theorem c_agreed (G : GT) (M : Mem) (q a b : Int) (hq : 0 ≤ q ∧ q ≤ 15) (ha : 0 ≤ a ∧ a ≤ 7) (hb : 0 ≤ b ∧ b ≤ 7) : AM G yX6_agreed cX6_agreed 4 (some .boolean) 0 M [vR 44, vI q, vI a, vI b] (qI (bI (agreed M q a b = true)) M) := by
  refine AM.mk (own := RX6) rfl sv_X6_agreed.1.2.2.2.2.2 (Nat.le_of_ble_eq_true rfl) rfl ?_
  refine a_aload_n (kX6_agreed.at 0 rfl) 0 rfl ?_
  refine a_getR (kX6_agreed.at 1 rfl) fg_X6_25 ir_44_8 ?_
  refine a_iconst (kX6_agreed.at 2 rfl) rfl ?_
  refine a_iload_n (kX6_agreed.at 3 rfl) 2 rfl ?_
  refine a_imul (kX6_agreed.at 4 rfl) (inr (by omega)) ?_
  refine a_iald (x := M 50 (3 * a)) (kX6_agreed.at 5 rfl) (ia_50) (by omega) (rfl) ?_
  refine a_iconst (kX6_agreed.at 6 rfl) rfl ?_
  refine a_icmpeq (tgt := 53) (kX6_agreed.at 7 rfl) (by decide) (fun h9 => ?_) (fun h9 => ?_)
  · refine a_iconst (kX6_agreed.at 35 rfl) rfl ?_
    exact a_zretE (kX6_agreed.at 36 rfl) (by first | exact Or.inl rfl | exact Or.inr rfl | omega) (⟨by simp [bI, agreed, *], rfl⟩)
  · refine a_aload_n (kX6_agreed.at 8 rfl) 0 rfl ?_
    refine a_getR (kX6_agreed.at 9 rfl) fg_X6_25 ir_44_8 ?_
    refine a_iconst (kX6_agreed.at 10 rfl) rfl ?_
    refine a_iload_n (kX6_agreed.at 11 rfl) 3 rfl ?_
    refine a_imul (kX6_agreed.at 12 rfl) (inr (by omega)) ?_
    refine a_iald (x := M 50 (3 * b)) (kX6_agreed.at 13 rfl) (ia_50) (by omega) (rfl) ?_
    refine a_iconst (kX6_agreed.at 14 rfl) rfl ?_
    refine a_icmpeq (tgt := 53) (kX6_agreed.at 15 rfl) (by decide) (fun h21 => ?_) (fun h21 => ?_)
    · refine a_iconst (kX6_agreed.at 35 rfl) rfl ?_
      exact a_zretE (kX6_agreed.at 36 rfl) (by first | exact Or.inl rfl | exact Or.inr rfl | omega) (⟨by simp [bI, agreed, *], rfl⟩)
    · refine a_aload_n (kX6_agreed.at 16 rfl) 0 rfl ?_
      refine a_getR (kX6_agreed.at 17 rfl) fg_X6_46 ir_44_20 ?_
      refine a_bipush (kX6_agreed.at 18 rfl) rfl rfl ?_
      refine a_iload_n (kX6_agreed.at 19 rfl) 1 rfl ?_
      refine a_imul (kX6_agreed.at 20 rfl) (inr (by omega)) ?_
      refine a_iload_n (kX6_agreed.at 21 rfl) 2 rfl ?_
      refine a_iadd (kX6_agreed.at 22 rfl) (inr (by omega)) ?_
      refine a_iald (x := M 57 ((8 * q) + a)) (kX6_agreed.at 23 rfl) (ia_57) (by omega) (rfl) ?_
      refine a_aload_n (kX6_agreed.at 24 rfl) 0 rfl ?_
      refine a_getR (kX6_agreed.at 25 rfl) fg_X6_46 ir_44_20 ?_
      refine a_bipush (kX6_agreed.at 26 rfl) rfl rfl ?_
      refine a_iload_n (kX6_agreed.at 27 rfl) 1 rfl ?_
      refine a_imul (kX6_agreed.at 28 rfl) (inr (by omega)) ?_
      refine a_iload_n (kX6_agreed.at 29 rfl) 3 rfl ?_
      refine a_iadd (kX6_agreed.at 30 rfl) (inr (by omega)) ?_
      refine a_iald (x := M 57 ((8 * q) + b)) (kX6_agreed.at 31 rfl) (ia_57) (by omega) (rfl) ?_
      refine a_icmpne (tgt := 53) (kX6_agreed.at 32 rfl) (by decide) (fun h46 => ?_) (fun h46 => ?_)
      · refine a_iconst (kX6_agreed.at 35 rfl) rfl ?_
        exact a_zretE (kX6_agreed.at 36 rfl) (by first | exact Or.inl rfl | exact Or.inr rfl | omega) (⟨by simp [bI, agreed, *], rfl⟩)
      · refine a_iconst (kX6_agreed.at 33 rfl) rfl ?_
        refine a_goto (tgt := 54) (kX6_agreed.at 34 rfl) (by decide) ?_
        exact a_zretE (kX6_agreed.at 36 rfl) (by first | exact Or.inl rfl | exact Or.inr rfl | omega) (⟨by simp [bI, agreed, *], rfl⟩)
noncomputable def prB (M : Mem) (q w a : Int) : Int → Int → Int := fun b n => if agreed M q a b = true ∧ (w = 0 ∨ apart (M 56 (8 * q + a)) (M 56 (8 * q + b)) = 1) then n + 1 else n + 0
noncomputable def prA (M : Mem) (q w : Int) : Int → Int → Int := fun a n => forR (a + 1) (M 44 7) (prB M q w a) n
noncomputable def pairsOf (M : Mem) (q w : Int) : Int := forR 0 (M 44 7) (prA M q w) 0
set_option maxHeartbeats 4000000 in
set_option maxRecDepth 100000 in
theorem l_pairsB (G : GT) (M : Mem) (q w a n0 : Int) (P : Option AV → Mem → Prop) (hB : HB M) (hq : 0 ≤ q ∧ q ≤ 15) (ha : 0 ≤ a ∧ a < M 44 7) (hn : 0 ≤ n0 ∧ n0 ≤ 1000) (hlohi : ((a + 1) : Int) ≤ (M 44 7)) (kk : (0 ≤ (forR (a + 1) (M 44 7) (prB M q w a) n0) ∧ (forR (a + 1) (M 44 7) (prB M q w a) n0) ≤ n0 + ((M 44 7) - a)) → AW G RX6 cX6_pairsOf 7 (some .int) (XM G 1 P) 102 [(0, vR 44), (1, vI q), (2, vI w), (3, vI (forR (a + 1) (M 44 7) (prB M q w a) n0)), (4, vI a), (5, vI (M 44 7))] [] M) : AW G RX6 cX6_pairsOf 7 (some .int) (XM G 1 P) 20 [(0, vR 44), (1, vI q), (2, vI w), (3, vI n0), (4, vI a), (5, vI (a + 1))] [] M := by
  have key : ∀ (nn : Nat) (b : Int) (n : Int), ((a + 1) : Int) ≤ b → b ≤ (M 44 7) → n = forR (a + 1) b (prB M q w a) n0 → (0 ≤ n ∧ n ≤ n0 + (b - a)) → (M 44 7) - b < nn → AW G RX6 cX6_pairsOf 7 (some .int) (XM G 1 P) 20 [(0, vR 44), (1, vI q), (2, vI w), (3, vI n), (4, vI a), (5, vI b)] [] M := by
    intro nn
    induction nn with
    | zero => intro b n hk0 hk1 e_n hb hn; omega
    | succ nn ih =>
      intro b n hk0 hk1 e_n hb hn
      have hp := hB.1
      have hh1 := hB.2 q a (by omega) (by omega) (by omega) (by omega)
      have hh2 := hB.2 q b (by omega) (by omega) (by omega)
      refine a_iload (kX6_pairsOf.at 12 rfl) 5 rfl ?_
      refine a_aload_n (kX6_pairsOf.at 13 rfl) 0 rfl ?_
      refine a_getI (x := M 44 7) (kX6_pairsOf.at 14 rfl) fg_X6_105 ii_44_7 (rfl) ?_
      refine a_icmpge (tgt := 102) (kX6_pairsOf.at 15 rfl) (by decide) (fun h26 => ?_) (fun h26 => ?_)
      · obtain rfl : b = M 44 7 := by omega
        subst e_n
        exact kk hb
      · refine a_aload_n (kX6_pairsOf.at 16 rfl) 0 rfl ?_
        refine a_getR (kX6_pairsOf.at 17 rfl) fg_X6_43 ir_44_19 ?_
        refine a_bipush (kX6_pairsOf.at 18 rfl) rfl rfl ?_
        refine a_iload_n (kX6_pairsOf.at 19 rfl) 1 rfl ?_
        refine a_imul (kX6_pairsOf.at 20 rfl) (inr (by omega)) ?_
        refine a_iload (kX6_pairsOf.at 21 rfl) 4 rfl ?_
        refine a_iadd (kX6_pairsOf.at 22 rfl) (inr (by omega)) ?_
        refine a_iald (x := M 56 ((8 * q) + a)) (kX6_pairsOf.at 23 rfl) (ia_56) (by omega) (rfl) ?_
        refine a_aload_n (kX6_pairsOf.at 24 rfl) 0 rfl ?_
        refine a_getR (kX6_pairsOf.at 25 rfl) fg_X6_43 ir_44_19 ?_
        refine a_bipush (kX6_pairsOf.at 26 rfl) rfl rfl ?_
        refine a_iload_n (kX6_pairsOf.at 27 rfl) 1 rfl ?_
        refine a_imul (kX6_pairsOf.at 28 rfl) (inr (by omega)) ?_
        refine a_iload (kX6_pairsOf.at 29 rfl) 5 rfl ?_
        refine a_iadd (kX6_pairsOf.at 30 rfl) (inr (by omega)) ?_
        refine a_iald (x := M 56 ((8 * q) + b)) (kX6_pairsOf.at 31 rfl) (ia_56) (by omega) (rfl) ?_
        refine AW.callS (as := [vI (M 56 ((8 * q) + a)), vI (M 56 ((8 * q) + b))]) (st := []) (kX6_pairsOf.at 32 rfl) ml_X6_159 ss_X6_apart ⟨Nat.le_of_ble_eq_true rfl, Nat.le_of_ble_eq_true rfl⟩ ⟨Nat.le_refl _, Nat.le_refl _⟩ rfl rfl (Nat.le_of_ble_eq_true rfl) (c_apart G M (M 56 ((8 * q) + a)) (M 56 ((8 * q) + b)) (by omega) (by omega)) (kIE ?_)
        refine a_iconst (kX6_pairsOf.at 33 rfl) rfl ?_
        refine a_icmpne (tgt := 64) (kX6_pairsOf.at 34 rfl) (by decide) (fun h57 => ?_) (fun h57 => ?_)
        · refine a_iconst (kX6_pairsOf.at 37 rfl) rfl ?_
          refine a_istore (ls' := [(0, vR 44), (1, vI q), (2, vI w), (3, vI n), (4, vI a), (5, vI b), (6, vI 0)]) (kX6_pairsOf.at 38 rfl) (by decide) rfl ?_
          refine a_iload_n (kX6_pairsOf.at 39 rfl) 3 rfl ?_
          refine a_aload_n (kX6_pairsOf.at 40 rfl) 0 rfl ?_
          refine a_iload_n (kX6_pairsOf.at 41 rfl) 1 rfl ?_
          refine a_iload (kX6_pairsOf.at 42 rfl) 4 rfl ?_
          refine a_iload (kX6_pairsOf.at 43 rfl) 5 rfl ?_
          refine AW.callV (as := [vI q, vI a, vI b]) (st := [vI n]) (kX6_pairsOf.at 44 rfl) ml_X6_215 sv_X6_agreed (k := 44) (io_44) rfl rfl ⟨Nat.le_of_ble_eq_true rfl, Nat.le_of_ble_eq_true rfl⟩ ⟨Nat.le_refl _, Nat.le_refl _⟩ rfl rfl (Nat.le_of_ble_eq_true rfl) (c_agreed G M q a b (by omega) (by omega) (by omega)) (kIE ?_)
          refine a_ifeqB (tgt := 93) (kX6_pairsOf.at 45 rfl) (by decide) (fun h77 => ?_) (fun h77 => ?_)
          · refine a_iconst (kX6_pairsOf.at 52 rfl) rfl ?_
            refine a_iadd (kX6_pairsOf.at 53 rfl) (inr (by omega)) ?_
            refine a_istore_n (ls' := [(0, vR 44), (1, vI q), (2, vI w), (3, vI (n + 0)), (4, vI a), (5, vI b), (6, vI 0)]) (kX6_pairsOf.at 54 rfl) (by decide) rfl ?_
            refine a_iinc (ls' := [(0, vR 44), (1, vI q), (2, vI w), (3, vI (n + 0)), (4, vI a), (5, vI (b + 1)), (6, vI 0)]) (kX6_pairsOf.at 55 rfl) 5 rfl (by decide) (inr (by omega)) rfl ?_
            refine a_goto (tgt := 20) (kX6_pairsOf.at 56 rfl) (by decide) ?_
            refine AW.loc (ls' := [(0, vR 44), (1, vI q), (2, vI w), (3, vI (n + 0)), (4, vI a), (5, vI (b + 1))]) [0, 1, 2, 3, 4, 5] rfl ?_
            exact ih ((b + 1)) ((n + 0)) (by omega) (by omega) (by rw [forR_succ hk0, ← e_n] <;> (clear ih kk e_n; first | (exfalso; omega) | (unfold prB; simp [*]) | (unfold prB; (repeat' split) <;> first | rfl | (exfalso; simp_all; done) | omega))) (by omega) (by omega)
          · refine a_iload_n (kX6_pairsOf.at 46 rfl) 2 rfl ?_
            refine a_ifeq (tgt := 89) (kX6_pairsOf.at 47 rfl) (by decide) (fun h81 => ?_) (fun h81 => ?_)
            · refine a_iconst (kX6_pairsOf.at 50 rfl) rfl ?_
              refine a_goto (tgt := 94) (kX6_pairsOf.at 51 rfl) (by decide) ?_
              refine a_iadd (kX6_pairsOf.at 53 rfl) (inr (by omega)) ?_
              refine a_istore_n (ls' := [(0, vR 44), (1, vI q), (2, vI w), (3, vI (n + 1)), (4, vI a), (5, vI b), (6, vI 0)]) (kX6_pairsOf.at 54 rfl) (by decide) rfl ?_
              refine a_iinc (ls' := [(0, vR 44), (1, vI q), (2, vI w), (3, vI (n + 1)), (4, vI a), (5, vI (b + 1)), (6, vI 0)]) (kX6_pairsOf.at 55 rfl) 5 rfl (by decide) (inr (by omega)) rfl ?_
              refine a_goto (tgt := 20) (kX6_pairsOf.at 56 rfl) (by decide) ?_
              refine AW.loc (ls' := [(0, vR 44), (1, vI q), (2, vI w), (3, vI (n + 1)), (4, vI a), (5, vI (b + 1))]) [0, 1, 2, 3, 4, 5] rfl ?_
              exact ih ((b + 1)) ((n + 1)) (by omega) (by omega) (by rw [forR_succ hk0, ← e_n] <;> (clear ih kk e_n; first | (exfalso; omega) | (unfold prB; simp [*]) | (unfold prB; (repeat' split) <;> first | rfl | (exfalso; simp_all; done) | omega))) (by omega) (by omega)
            · refine a_iload (kX6_pairsOf.at 48 rfl) 6 rfl ?_
              refine a_ifeq (tgt := 93) (kX6_pairsOf.at 49 rfl) (by decide) (fun h86 => ?_) (fun h86 => absurd h86 (by decide))
              refine a_iconst (kX6_pairsOf.at 52 rfl) rfl ?_
              refine a_iadd (kX6_pairsOf.at 53 rfl) (inr (by omega)) ?_
              refine a_istore_n (ls' := [(0, vR 44), (1, vI q), (2, vI w), (3, vI (n + 0)), (4, vI a), (5, vI b), (6, vI 0)]) (kX6_pairsOf.at 54 rfl) (by decide) rfl ?_
              refine a_iinc (ls' := [(0, vR 44), (1, vI q), (2, vI w), (3, vI (n + 0)), (4, vI a), (5, vI (b + 1)), (6, vI 0)]) (kX6_pairsOf.at 55 rfl) 5 rfl (by decide) (inr (by omega)) rfl ?_
              refine a_goto (tgt := 20) (kX6_pairsOf.at 56 rfl) (by decide) ?_
              refine AW.loc (ls' := [(0, vR 44), (1, vI q), (2, vI w), (3, vI (n + 0)), (4, vI a), (5, vI (b + 1))]) [0, 1, 2, 3, 4, 5] rfl ?_
              exact ih ((b + 1)) ((n + 0)) (by omega) (by omega) (by rw [forR_succ hk0, ← e_n] <;> (clear ih kk e_n; first | (exfalso; omega) | (unfold prB; simp [*]) | (unfold prB; (repeat' split) <;> first | rfl | (exfalso; simp_all; done) | omega))) (by omega) (by omega)
        · refine a_iconst (kX6_pairsOf.at 35 rfl) rfl ?_
          refine a_goto (tgt := 65) (kX6_pairsOf.at 36 rfl) (by decide) ?_
          refine a_istore (ls' := [(0, vR 44), (1, vI q), (2, vI w), (3, vI n), (4, vI a), (5, vI b), (6, vI 1)]) (kX6_pairsOf.at 38 rfl) (by decide) rfl ?_
          refine a_iload_n (kX6_pairsOf.at 39 rfl) 3 rfl ?_
          refine a_aload_n (kX6_pairsOf.at 40 rfl) 0 rfl ?_
          refine a_iload_n (kX6_pairsOf.at 41 rfl) 1 rfl ?_
          refine a_iload (kX6_pairsOf.at 42 rfl) 4 rfl ?_
          refine a_iload (kX6_pairsOf.at 43 rfl) 5 rfl ?_
          refine AW.callV (as := [vI q, vI a, vI b]) (st := [vI n]) (kX6_pairsOf.at 44 rfl) ml_X6_215 sv_X6_agreed (k := 44) (io_44) rfl rfl ⟨Nat.le_of_ble_eq_true rfl, Nat.le_of_ble_eq_true rfl⟩ ⟨Nat.le_refl _, Nat.le_refl _⟩ rfl rfl (Nat.le_of_ble_eq_true rfl) (c_agreed G M q a b (by omega) (by omega) (by omega)) (kIE ?_)
          refine a_ifeqB (tgt := 93) (kX6_pairsOf.at 45 rfl) (by decide) (fun h77 => ?_) (fun h77 => ?_)
          · refine a_iconst (kX6_pairsOf.at 52 rfl) rfl ?_
            refine a_iadd (kX6_pairsOf.at 53 rfl) (inr (by omega)) ?_
            refine a_istore_n (ls' := [(0, vR 44), (1, vI q), (2, vI w), (3, vI (n + 0)), (4, vI a), (5, vI b), (6, vI 1)]) (kX6_pairsOf.at 54 rfl) (by decide) rfl ?_
            refine a_iinc (ls' := [(0, vR 44), (1, vI q), (2, vI w), (3, vI (n + 0)), (4, vI a), (5, vI (b + 1)), (6, vI 1)]) (kX6_pairsOf.at 55 rfl) 5 rfl (by decide) (inr (by omega)) rfl ?_
            refine a_goto (tgt := 20) (kX6_pairsOf.at 56 rfl) (by decide) ?_
            refine AW.loc (ls' := [(0, vR 44), (1, vI q), (2, vI w), (3, vI (n + 0)), (4, vI a), (5, vI (b + 1))]) [0, 1, 2, 3, 4, 5] rfl ?_
            exact ih ((b + 1)) ((n + 0)) (by omega) (by omega) (by rw [forR_succ hk0, ← e_n] <;> (clear ih kk e_n; first | (exfalso; omega) | (unfold prB; simp [*]) | (unfold prB; (repeat' split) <;> first | rfl | (exfalso; simp_all; done) | omega))) (by omega) (by omega)
          · refine a_iload_n (kX6_pairsOf.at 46 rfl) 2 rfl ?_
            refine a_ifeq (tgt := 89) (kX6_pairsOf.at 47 rfl) (by decide) (fun h81 => ?_) (fun h81 => ?_)
            · refine a_iconst (kX6_pairsOf.at 50 rfl) rfl ?_
              refine a_goto (tgt := 94) (kX6_pairsOf.at 51 rfl) (by decide) ?_
              refine a_iadd (kX6_pairsOf.at 53 rfl) (inr (by omega)) ?_
              refine a_istore_n (ls' := [(0, vR 44), (1, vI q), (2, vI w), (3, vI (n + 1)), (4, vI a), (5, vI b), (6, vI 1)]) (kX6_pairsOf.at 54 rfl) (by decide) rfl ?_
              refine a_iinc (ls' := [(0, vR 44), (1, vI q), (2, vI w), (3, vI (n + 1)), (4, vI a), (5, vI (b + 1)), (6, vI 1)]) (kX6_pairsOf.at 55 rfl) 5 rfl (by decide) (inr (by omega)) rfl ?_
              refine a_goto (tgt := 20) (kX6_pairsOf.at 56 rfl) (by decide) ?_
              refine AW.loc (ls' := [(0, vR 44), (1, vI q), (2, vI w), (3, vI (n + 1)), (4, vI a), (5, vI (b + 1))]) [0, 1, 2, 3, 4, 5] rfl ?_
              exact ih ((b + 1)) ((n + 1)) (by omega) (by omega) (by rw [forR_succ hk0, ← e_n] <;> (clear ih kk e_n; first | (exfalso; omega) | (unfold prB; simp [*]) | (unfold prB; (repeat' split) <;> first | rfl | (exfalso; simp_all; done) | omega))) (by omega) (by omega)
            · refine a_iload (kX6_pairsOf.at 48 rfl) 6 rfl ?_
              refine a_ifeq (tgt := 93) (kX6_pairsOf.at 49 rfl) (by decide) (fun h86 => absurd h86 (by decide)) (fun h86 => ?_)
              refine a_iconst (kX6_pairsOf.at 50 rfl) rfl ?_
              refine a_goto (tgt := 94) (kX6_pairsOf.at 51 rfl) (by decide) ?_
              refine a_iadd (kX6_pairsOf.at 53 rfl) (inr (by omega)) ?_
              refine a_istore_n (ls' := [(0, vR 44), (1, vI q), (2, vI w), (3, vI (n + 1)), (4, vI a), (5, vI b), (6, vI 1)]) (kX6_pairsOf.at 54 rfl) (by decide) rfl ?_
              refine a_iinc (ls' := [(0, vR 44), (1, vI q), (2, vI w), (3, vI (n + 1)), (4, vI a), (5, vI (b + 1)), (6, vI 1)]) (kX6_pairsOf.at 55 rfl) 5 rfl (by decide) (inr (by omega)) rfl ?_
              refine a_goto (tgt := 20) (kX6_pairsOf.at 56 rfl) (by decide) ?_
              refine AW.loc (ls' := [(0, vR 44), (1, vI q), (2, vI w), (3, vI (n + 1)), (4, vI a), (5, vI (b + 1))]) [0, 1, 2, 3, 4, 5] rfl ?_
              exact ih ((b + 1)) ((n + 1)) (by omega) (by omega) (by rw [forR_succ hk0, ← e_n] <;> (clear ih kk e_n; first | (exfalso; omega) | (unfold prB; simp [*]) | (unfold prB; (repeat' split) <;> first | rfl | (exfalso; simp_all; done) | omega))) (by omega) (by omega)
  exact key ((M 44 7) - (a + 1) + 1 : Int).toNat (a + 1) n0 (Int.le_refl _) hlohi (forR_nil (Int.le_refl _)).symm (by omega) (by omega)
set_option maxHeartbeats 4000000 in
set_option maxRecDepth 100000 in
theorem l_pairsA (G : GT) (M : Mem) (q w : Int) (P : Option AV → Mem → Prop) (hB : HB M) (hq : 0 ≤ q ∧ q ≤ 15) (hlohi : (0 : Int) ≤ (M 44 7)) (kk : (0 ≤ (forR 0 (M 44 7) (prA M q w) 0) ∧ (forR 0 (M 44 7) (prA M q w) 0) ≤ 9 * (M 44 7)) → AW G RX6 cX6_pairsOf 7 (some .int) (XM G 1 P) 108 [(0, vR 44), (1, vI q), (2, vI w), (3, vI (forR 0 (M 44 7) (prA M q w) 0)), (4, vI (M 44 7))] [] M) : AW G RX6 cX6_pairsOf 7 (some .int) (XM G 1 P) 5 [(0, vR 44), (1, vI q), (2, vI w), (3, vI 0), (4, vI 0)] [] M := by
  have key : ∀ (nn : Nat) (a : Int) (n : Int), (0 : Int) ≤ a → a ≤ (M 44 7) → n = forR 0 a (prA M q w) 0 → (0 ≤ n ∧ n ≤ 9 * a) → (M 44 7) - a < nn → AW G RX6 cX6_pairsOf 7 (some .int) (XM G 1 P) 5 [(0, vR 44), (1, vI q), (2, vI w), (3, vI n), (4, vI a)] [] M := by
    intro nn
    induction nn with
    | zero => intro a n hk0 hk1 e_n hb hn; omega
    | succ nn ih =>
      intro a n hk0 hk1 e_n hb hn
      have hp := hB.1
      refine a_iload (kX6_pairsOf.at 4 rfl) 4 rfl ?_
      refine a_aload_n (kX6_pairsOf.at 5 rfl) 0 rfl ?_
      refine a_getI (x := M 44 7) (kX6_pairsOf.at 6 rfl) fg_X6_105 ii_44_7 (rfl) ?_
      refine a_icmpge (tgt := 108) (kX6_pairsOf.at 7 rfl) (by decide) (fun h11 => ?_) (fun h11 => ?_)
      · obtain rfl : a = M 44 7 := by omega
        subst e_n
        exact kk hb
      · refine a_iload (kX6_pairsOf.at 8 rfl) 4 rfl ?_
        refine a_iconst (kX6_pairsOf.at 9 rfl) rfl ?_
        refine a_iadd (kX6_pairsOf.at 10 rfl) (inr (by omega)) ?_
        refine a_istore (ls' := [(0, vR 44), (1, vI q), (2, vI w), (3, vI n), (4, vI a), (5, vI (a + 1))]) (kX6_pairsOf.at 11 rfl) (by decide) rfl ?_
        refine l_pairsB G M q w a n _ hB (by omega) (by omega) (by omega) (by omega) ?_
        intro hbb
        show AW _ _ _ _ _ _ 102 [(0, vR 44), (1, vI q), (2, vI w), (3, vI (forR (a + 1) (M 44 7) (prB M q w a) n)), (4, vI a), (5, vI (M 44 7))] [] M
        refine a_iinc (ls' := [(0, vR 44), (1, vI q), (2, vI w), (3, vI (forR (a + 1) (M 44 7) (prB M q w a) n)), (4, vI (a + 1)), (5, vI (M 44 7))]) (kX6_pairsOf.at 57 rfl) 4 rfl (by decide) (inr (by omega)) rfl ?_
        refine a_goto (tgt := 5) (kX6_pairsOf.at 58 rfl) (by decide) ?_
        refine AW.loc (ls' := [(0, vR 44), (1, vI q), (2, vI w), (3, vI (forR (a + 1) (M 44 7) (prB M q w a) n)), (4, vI (a + 1))]) [0, 1, 2, 3, 4] rfl ?_
        exact ih ((a + 1)) ((forR (a + 1) (M 44 7) (prB M q w a) n)) (by omega) (by omega) (by rw [forR_succ hk0, ← e_n] <;> (clear ih kk e_n; rfl)) (by (have hbb : 0 ≤ forR (a + 1) (M 44 7) (prB M q w a) n ∧ forR (a + 1) (M 44 7) (prB M q w a) n ≤ n + (M 44 7 - a) := hbb); omega) (by omega)
  exact key ((M 44 7) - (0) + 1 : Int).toNat (0) 0 (Int.le_refl _) hlohi (forR_nil (Int.le_refl _)).symm (by omega) (by omega)
theorem c_pairsOf (G : GT) (M : Mem) (q w : Int) (hB : HB M) (hq : 0 ≤ q ∧ q ≤ 15) : AM G yX6_pairsOf cX6_pairsOf 7 (some .int) 1 M [vR 44, vI q, vI w] (qI (pairsOf M q w) M) := by
  refine AM.mk (own := RX6) rfl sv_X6_pairsOf.1.2.2.2.2.2 (Nat.le_of_ble_eq_true rfl) rfl ?_
  have hp := hB.1
  refine a_iconst (kX6_pairsOf.at 0 rfl) rfl ?_
  refine a_istore_n (ls' := [(0, vR 44), (1, vI q), (2, vI w), (3, vI 0)]) (kX6_pairsOf.at 1 rfl) (by decide) rfl ?_
  refine a_iconst (kX6_pairsOf.at 2 rfl) rfl ?_
  refine a_istore (ls' := [(0, vR 44), (1, vI q), (2, vI w), (3, vI 0), (4, vI 0)]) (kX6_pairsOf.at 3 rfl) (by decide) rfl ?_
  refine l_pairsA G M q w _ hB hq (by omega) ?_
  intro hb
  show AW _ _ _ _ _ _ 108 [(0, vR 44), (1, vI q), (2, vI w), (3, vI (pairsOf M q w)), (4, vI (M 44 7))] [] M
  refine a_iload_n (kX6_pairsOf.at 59 rfl) 3 rfl ?_
  exact a_iretE (kX6_pairsOf.at 60 rfl) (⟨rfl, rfl⟩)
noncomputable def o_pairs (M : Mem) (q w : Int) : Int := if (0 ≤ q ∧ q ≤ 15) ∧ 0 ≤ w ∧ w ≤ 1 then pairsOf (find M) q w else -2
theorem c_pairs (G : GT) (M : Mem) (q w : Int) (hI : MI M) : AM G yX6_pairs cX6_pairs 3 (some .int) 6 M [vR 44, vI q, vI w] (qI (o_pairs M q w) (find M)) := by
  refine AM.mk (own := RX6) rfl sv_X6_pairs.1.2.2.2.2.2 (Nat.le_of_ble_eq_true rfl) rfl ?_
  have hB := find_HB hI
  refine a_aload_n (kX6_pairs.at 0 rfl) 0 rfl ?_
  refine AW.callV (as := []) (st := []) (kX6_pairs.at 1 rfl) ml_X6_203 sv_X6_find (k := 44) (io_44) rfl rfl ⟨Nat.le_of_ble_eq_true rfl, Nat.le_of_ble_eq_true rfl⟩ ⟨Nat.le_refl _, Nat.le_refl _⟩ rfl rfl (Nat.le_of_ble_eq_true rfl) (c_find G M hI) (kVE ?_)
  refine a_iload_n (kX6_pairs.at 2 rfl) 1 rfl ?_
  refine AW.callS (as := [vI q]) (st := []) (kX6_pairs.at 3 rfl) ml_X6_131 ss_X6_isQuarter ⟨Nat.le_of_ble_eq_true rfl, Nat.le_of_ble_eq_true rfl⟩ ⟨Nat.le_refl _, Nat.le_refl _⟩ rfl rfl (Nat.le_of_ble_eq_true rfl) (c_isQuarter G (find M) q) (kIE ?_)
  refine a_ifeqB (tgt := 27) (kX6_pairs.at 4 rfl) (by decide) (fun h8 => ?_) (fun h8 => ?_)
  · refine a_bipush (kX6_pairs.at 13 rfl) rfl rfl ?_
    exact a_iretE (kX6_pairs.at 14 rfl) (by first | (exfalso; omega) | (unfold o_pairs; (repeat' split) <;> first | (exfalso; omega) | exact ⟨rfl, rfl⟩))
  · refine a_iload_n (kX6_pairs.at 5 rfl) 2 rfl ?_
    refine AW.callS (as := [vI w]) (st := []) (kX6_pairs.at 6 rfl) ml_X6_219 ss_X6_isTwo ⟨Nat.le_of_ble_eq_true rfl, Nat.le_of_ble_eq_true rfl⟩ ⟨Nat.le_refl _, Nat.le_refl _⟩ rfl rfl (Nat.le_of_ble_eq_true rfl) (c_isTwo G (find M) w) (kIE ?_)
    refine a_ifeqB (tgt := 27) (kX6_pairs.at 7 rfl) (by decide) (fun h15 => ?_) (fun h15 => ?_)
    · refine a_bipush (kX6_pairs.at 13 rfl) rfl rfl ?_
      exact a_iretE (kX6_pairs.at 14 rfl) (by first | (exfalso; omega) | (unfold o_pairs; (repeat' split) <;> first | (exfalso; omega) | exact ⟨rfl, rfl⟩))
    · refine a_aload_n (kX6_pairs.at 8 rfl) 0 rfl ?_
      refine a_iload_n (kX6_pairs.at 9 rfl) 1 rfl ?_
      refine a_iload_n (kX6_pairs.at 10 rfl) 2 rfl ?_
      refine AW.callV (as := [vI q, vI w]) (st := []) (kX6_pairs.at 11 rfl) ml_X6_222 sv_X6_pairsOf (k := 44) (io_44) rfl rfl ⟨Nat.le_of_ble_eq_true rfl, Nat.le_of_ble_eq_true rfl⟩ ⟨Nat.le_refl _, Nat.le_refl _⟩ rfl rfl (Nat.le_of_ble_eq_true rfl) (c_pairsOf G (find M) q w hB (by omega)) (kIE ?_)
      refine a_goto (tgt := 29) (kX6_pairs.at 12 rfl) (by decide) ?_
      exact a_iretE (kX6_pairs.at 14 rfl) (by first | (exfalso; omega) | (unfold o_pairs; (repeat' split) <;> first | (exfalso; omega) | exact ⟨rfl, rfl⟩))
