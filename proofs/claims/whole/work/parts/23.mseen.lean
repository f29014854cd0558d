/-! ===== the reference: what was seen ===== -/
noncomputable def QI (M : Mem) : Prop := (0 ≤ M 44 28 ∧ M 44 28 ≤ 8) ∧ ∀ i, 0 ≤ i → i < M 44 28 → 0 ≤ M 60 (3 * i) ∧ M 60 (3 * i) ≤ 15
theorem QI.of {M N : Mem} (h : QI M) (e1 : N 44 28 = M 44 28) (e2 : ∀ j, N 60 j = M 60 j) : QI N := ⟨by rw [e1]; exact h.1, fun i a b => by rw [e2]; exact h.2 i a (by rw [e1] at b; exact b)⟩
noncomputable def snF (M : Mem) : Int → Int → Int := fun i is => if is ≠ 0 ∧ (0 ≤ M 60 (3 * i + 1) ∧ M 60 (3 * i + 1) ≤ M 44 7 - 1) ∧ M 56 (8 * M 60 (3 * i) + M 60 (3 * i + 1)) = M 60 (3 * i + 2) then 1 else 0
/-- whether all that was seen came out so -/
noncomputable def seenI (M : Mem) : Int := forR 0 (M 44 28) (snF M) 1
theorem seenI_r (M : Mem) (h : 0 ≤ M 44 28) : seenI M = 0 ∨ seenI M = 1 := by
  unfold seenI
  exact forR_inv (fun _ is => is = 0 ∨ is = 1) h (Or.inr rfl) (fun k is _ _ _ => by
    unfold snF
    split
    · exact Or.inr rfl
    · exact Or.inl rfl)
set_option maxHeartbeats 4000000 in
set_option maxRecDepth 100000 in
theorem l_isSeen (G : GT) (M : Mem) (P : Option AV → Mem → Prop) (hp : 0 ≤ M 44 7 ∧ M 44 7 ≤ 8) (hQ : QI M) (hlohi : (0 : Int) ≤ (M 44 28)) (kk : ((forR 0 (M 44 28) (snF M) 1) = 0 ∨ (forR 0 (M 44 28) (snF M) 1) = 1) → AW G RX6 cX6_isSeen 4 (some .boolean) (XM G 5 P) 82 [(0, vR 44), (1, vI (forR 0 (M 44 28) (snF M) 1)), (2, vI (M 44 28))] [] M) : AW G RX6 cX6_isSeen 4 (some .boolean) (XM G 5 P) 8 [(0, vR 44), (1, vI 1), (2, vI 0)] [] M := by
  have key : ∀ (nn : Nat) (i : Int) (is : Int), (0 : Int) ≤ i → i ≤ (M 44 28) → is = forR 0 i (snF M) 1 → (is = 0 ∨ is = 1) → (M 44 28) - i < nn → AW G RX6 cX6_isSeen 4 (some .boolean) (XM G 5 P) 8 [(0, vR 44), (1, vI is), (2, vI i)] [] M := by
    intro nn
    induction nn with
    | zero => intro i is hk0 hk1 e_is hb hn; omega
    | succ nn ih =>
      intro i is hk0 hk1 e_is hb hn
      have hs := hQ.1
      have hq := hQ.2 i hk0
      refine a_iload_n (kX6_isSeen.at 6 rfl) 2 rfl ?_
      refine a_aload_n (kX6_isSeen.at 7 rfl) 0 rfl ?_
      refine a_getI (x := M 44 28) (kX6_isSeen.at 8 rfl) fg_X6_263 ii_44_28 (rfl) ?_
      refine a_icmpge (tgt := 82) (kX6_isSeen.at 9 rfl) (by decide) (fun h13 => ?_) (fun h13 => ?_)
      · obtain rfl : i = M 44 28 := by omega
        subst e_is
        exact kk hb
      · refine a_aload_n (kX6_isSeen.at 10 rfl) 0 rfl ?_
        refine a_getR (kX6_isSeen.at 11 rfl) fg_X6_55 ir_44_29 ?_
        refine a_iconst (kX6_isSeen.at 12 rfl) rfl ?_
        refine a_iload_n (kX6_isSeen.at 13 rfl) 2 rfl ?_
        refine a_imul (kX6_isSeen.at 14 rfl) (inr (by omega)) ?_
        refine a_iconst (kX6_isSeen.at 15 rfl) rfl ?_
        refine a_iadd (kX6_isSeen.at 16 rfl) (inr (by omega)) ?_
        refine a_iald (x := M 60 ((3 * i) + 1)) (kX6_isSeen.at 17 rfl) (ia_60) (by omega) (rfl) ?_
        refine a_istore_n (ls' := [(0, vR 44), (1, vI is), (2, vI i), (3, vI (M 60 ((3 * i) + 1)))]) (kX6_isSeen.at 18 rfl) (by decide) rfl ?_
        refine a_iload_n (kX6_isSeen.at 19 rfl) 1 rfl ?_
        refine a_ifeq (tgt := 74) (kX6_isSeen.at 20 rfl) (by decide) (fun h28 => ?_) (fun h28 => ?_)
        · refine a_iconst (kX6_isSeen.at 49 rfl) rfl ?_
          refine a_istore_n (ls' := [(0, vR 44), (1, vI 0), (2, vI i), (3, vI (M 60 ((3 * i) + 1)))]) (kX6_isSeen.at 50 rfl) (by decide) rfl ?_
          refine a_iinc (ls' := [(0, vR 44), (1, vI 0), (2, vI (i + 1)), (3, vI (M 60 ((3 * i) + 1)))]) (kX6_isSeen.at 51 rfl) 2 rfl (by decide) (inr (by omega)) rfl ?_
          refine a_goto (tgt := 8) (kX6_isSeen.at 52 rfl) (by decide) ?_
          refine AW.loc (ls' := [(0, vR 44), (1, vI 0), (2, vI (i + 1))]) [0, 1, 2] rfl ?_
          exact ih ((i + 1)) (0) (by omega) (by omega) (by rw [forR_succ hk0, ← e_is] <;> (clear ih kk e_is; first | (exfalso; omega) | (unfold snF; simp [*]))) (by omega) (by omega)
        · refine a_aload_n (kX6_isSeen.at 21 rfl) 0 rfl ?_
          refine a_iload_n (kX6_isSeen.at 22 rfl) 3 rfl ?_
          refine AW.callV (as := [vI (M 60 ((3 * i) + 1))]) (st := []) (kX6_isSeen.at 23 rfl) ml_X6_125 sv_X6_isPerson (k := 44) (io_44) rfl rfl ⟨Nat.le_of_ble_eq_true rfl, Nat.le_of_ble_eq_true rfl⟩ ⟨Nat.le_refl _, Nat.le_refl _⟩ rfl rfl (Nat.le_of_ble_eq_true rfl) (c_isPerson G M (M 60 ((3 * i) + 1)) (by omega)) (kIE ?_)
          refine a_ifeqB (tgt := 74) (kX6_isSeen.at 24 rfl) (by decide) (fun h36 => ?_) (fun h36 => ?_)
          · refine a_iconst (kX6_isSeen.at 49 rfl) rfl ?_
            refine a_istore_n (ls' := [(0, vR 44), (1, vI 0), (2, vI i), (3, vI (M 60 ((3 * i) + 1)))]) (kX6_isSeen.at 50 rfl) (by decide) rfl ?_
            refine a_iinc (ls' := [(0, vR 44), (1, vI 0), (2, vI (i + 1)), (3, vI (M 60 ((3 * i) + 1)))]) (kX6_isSeen.at 51 rfl) 2 rfl (by decide) (inr (by omega)) rfl ?_
            refine a_goto (tgt := 8) (kX6_isSeen.at 52 rfl) (by decide) ?_
            refine AW.loc (ls' := [(0, vR 44), (1, vI 0), (2, vI (i + 1))]) [0, 1, 2] rfl ?_
            exact ih ((i + 1)) (0) (by omega) (by omega) (by rw [forR_succ hk0, ← e_is] <;> (clear ih kk e_is; first | (exfalso; omega) | (unfold snF; simp [*]))) (by omega) (by omega)
          · refine a_aload_n (kX6_isSeen.at 25 rfl) 0 rfl ?_
            refine a_getR (kX6_isSeen.at 26 rfl) fg_X6_43 ir_44_19 ?_
            refine a_bipush (kX6_isSeen.at 27 rfl) rfl rfl ?_
            refine a_aload_n (kX6_isSeen.at 28 rfl) 0 rfl ?_
            refine a_getR (kX6_isSeen.at 29 rfl) fg_X6_55 ir_44_29 ?_
            refine a_iconst (kX6_isSeen.at 30 rfl) rfl ?_
            refine a_iload_n (kX6_isSeen.at 31 rfl) 2 rfl ?_
            refine a_imul (kX6_isSeen.at 32 rfl) (inr (by omega)) ?_
            refine a_iald (x := M 60 (3 * i)) (kX6_isSeen.at 33 rfl) (ia_60) (by omega) (rfl) ?_
            refine a_imul (kX6_isSeen.at 34 rfl) (inr (by omega)) ?_
            refine a_iload_n (kX6_isSeen.at 35 rfl) 3 rfl ?_
            refine a_iadd (kX6_isSeen.at 36 rfl) (inr (by omega)) ?_
            refine a_iald (x := M 56 ((8 * (M 60 (3 * i))) + (M 60 ((3 * i) + 1)))) (kX6_isSeen.at 37 rfl) (ia_56) (by omega) (rfl) ?_
            refine a_aload_n (kX6_isSeen.at 38 rfl) 0 rfl ?_
            refine a_getR (kX6_isSeen.at 39 rfl) fg_X6_55 ir_44_29 ?_
            refine a_iconst (kX6_isSeen.at 40 rfl) rfl ?_
            refine a_iload_n (kX6_isSeen.at 41 rfl) 2 rfl ?_
            refine a_imul (kX6_isSeen.at 42 rfl) (inr (by omega)) ?_
            refine a_iconst (kX6_isSeen.at 43 rfl) rfl ?_
            refine a_iadd (kX6_isSeen.at 44 rfl) (inr (by omega)) ?_
            refine a_iald (x := M 60 ((3 * i) + 2)) (kX6_isSeen.at 45 rfl) (ia_60) (by omega) (rfl) ?_
            refine a_icmpne (tgt := 74) (kX6_isSeen.at 46 rfl) (by decide) (fun h67 => ?_) (fun h67 => ?_)
            · refine a_iconst (kX6_isSeen.at 49 rfl) rfl ?_
              refine a_istore_n (ls' := [(0, vR 44), (1, vI 0), (2, vI i), (3, vI (M 60 ((3 * i) + 1)))]) (kX6_isSeen.at 50 rfl) (by decide) rfl ?_
              refine a_iinc (ls' := [(0, vR 44), (1, vI 0), (2, vI (i + 1)), (3, vI (M 60 ((3 * i) + 1)))]) (kX6_isSeen.at 51 rfl) 2 rfl (by decide) (inr (by omega)) rfl ?_
              refine a_goto (tgt := 8) (kX6_isSeen.at 52 rfl) (by decide) ?_
              refine AW.loc (ls' := [(0, vR 44), (1, vI 0), (2, vI (i + 1))]) [0, 1, 2] rfl ?_
              exact ih ((i + 1)) (0) (by omega) (by omega) (by rw [forR_succ hk0, ← e_is] <;> (clear ih kk e_is; first | (exfalso; omega) | (unfold snF; simp [*]))) (by omega) (by omega)
            · refine a_iconst (kX6_isSeen.at 47 rfl) rfl ?_
              refine a_goto (tgt := 75) (kX6_isSeen.at 48 rfl) (by decide) ?_
              refine a_istore_n (ls' := [(0, vR 44), (1, vI 1), (2, vI i), (3, vI (M 60 ((3 * i) + 1)))]) (kX6_isSeen.at 50 rfl) (by decide) rfl ?_
              refine a_iinc (ls' := [(0, vR 44), (1, vI 1), (2, vI (i + 1)), (3, vI (M 60 ((3 * i) + 1)))]) (kX6_isSeen.at 51 rfl) 2 rfl (by decide) (inr (by omega)) rfl ?_
              refine a_goto (tgt := 8) (kX6_isSeen.at 52 rfl) (by decide) ?_
              refine AW.loc (ls' := [(0, vR 44), (1, vI 1), (2, vI (i + 1))]) [0, 1, 2] rfl ?_
              exact ih ((i + 1)) (1) (by omega) (by omega) (by rw [forR_succ hk0, ← e_is] <;> (clear ih kk e_is; first | (exfalso; omega) | (unfold snF; simp [*]))) (by omega) (by omega)
  exact key ((M 44 28) - (0) + 1 : Int).toNat (0) 1 (Int.le_refl _) hlohi (forR_nil (Int.le_refl _)).symm (Or.inr rfl) (by omega)
theorem c_isSeen (G : GT) (M : Mem) (hL : LI M) (hQ : QI M) : AM G yX6_isSeen cX6_isSeen 4 (some .boolean) 5 M [vR 44] (qI (seenI (lives M)) (lives M)) := by
  refine AM.mk (own := RX6) rfl sv_X6_isSeen.1.2.2.2.2.2 (Nat.le_of_ble_eq_true rfl) rfl ?_
  have hF := Fr_lives M
  have hp : 0 ≤ lives M 44 7 ∧ lives M 44 7 ≤ 8 := by rw [hF.people]; exact hL.1.1
  have hQ2 : QI (lives M) := hQ.of (hF 44 28 (by omega) (by omega)) (fun j => hF 60 j (by omega) (by omega))
  refine a_aload_n (kX6_isSeen.at 0 rfl) 0 rfl ?_
  refine AW.callV (as := []) (st := []) (kX6_isSeen.at 1 rfl) ml_X6_200 sv_X6_lives (k := 44) (io_44) rfl rfl ⟨Nat.le_of_ble_eq_true rfl, Nat.le_of_ble_eq_true rfl⟩ ⟨Nat.le_refl _, Nat.le_refl _⟩ rfl rfl (Nat.le_of_ble_eq_true rfl) (c_lives G M hL.1 hL.2) (kVE ?_)
  refine a_iconst (kX6_isSeen.at 2 rfl) rfl ?_
  refine a_istore_n (ls' := [(0, vR 44), (1, vI 1)]) (kX6_isSeen.at 3 rfl) (by decide) rfl ?_
  refine a_iconst (kX6_isSeen.at 4 rfl) rfl ?_
  refine a_istore_n (ls' := [(0, vR 44), (1, vI 1), (2, vI 0)]) (kX6_isSeen.at 5 rfl) (by decide) rfl ?_
  refine l_isSeen G (lives M) _ hp hQ2 hQ2.1.1 ?_
  intro hb
  show AW _ _ _ _ _ _ 82 [(0, vR 44), (1, vI (seenI (lives M))), (2, vI (lives M 44 28))] [] (lives M)
  change seenI (lives M) = 0 ∨ seenI (lives M) = 1 at hb
  refine a_iload_n (kX6_isSeen.at 53 rfl) 1 rfl ?_
  exact a_zretE (kX6_isSeen.at 54 rfl) (by first | exact Or.inl rfl | exact Or.inr rfl | omega) (⟨rfl, rfl⟩)
theorem seenI_E {M N : Mem} (h : OutE M N) (hQ : QI M) (e1 : N 44 28 = M 44 28) (e2 : ∀ j, N 60 j = M 60 j) : seenI N = seenI M := by
  unfold seenI
  rw [e1]
  refine forR_cong fun i is a b => ?_
  unfold snF
  rw [e2, e2, e2, h.p]
  by_cases hk : 0 ≤ M 60 (3 * i + 1) ∧ M 60 (3 * i + 1) ≤ M 44 7 - 1
  · have hq := hQ.2 i a b
    rw [show N 56 (8 * M 60 (3 * i) + M 60 (3 * i + 1)) = M 56 (8 * M 60 (3 * i) + M 60 (3 * i + 1)) from h.2 _ _ 0 hq.1 hq.2 hk.1 (by omega) (by omega)]
  · rw [if_neg (fun z => hk z.2.1), if_neg (fun z => hk z.2.1)]
/-- two memories that differ in scratch alone: seen alike when what goes in is alike -/
theorem seen_E {M N : Mem} (h : InE M N) (hL : LI M) (hQ : QI M) (e1 : N 44 28 = M 44 28) (e2 : ∀ j, N 60 j = M 60 j) : seenI (lives N) = seenI (lives M) := by
  have f1 := Fr_lives M
  have f2 := Fr_lives N
  have a1 := f1 44 28 (by omega) (by omega)
  have a2 := f2 44 28 (by omega) (by omega)
  refine seenI_E (lives_E h hL.1.1) (hQ.of a1 (fun j => f1 60 j (by omega) (by omega))) (by rw [a1, a2, e1]) (fun j => ?_)
  rw [f1 60 j (by omega) (by omega), f2 60 j (by omega) (by omega), e2]
theorem Fq.q28 {M N : Mem} (hF : Fq M N) : N 44 28 = M 44 28 := hF 44 28 (by omega) (by omega) (by omega) (by omega)
theorem Fq.q60 {M N : Mem} (hF : Fq M N) (j : Int) : N 60 j = M 60 j := hF 60 j (by omega) (by omega) (by omega) (by omega)
theorem QI.Fq {M N : Mem} (h : QI M) (hF : Fq M N) : QI N := h.of hF.q28 hF.q60
noncomputable def nvF (M : Mem) : Int → Int → Int := fun i b => iOr b (if seenI (lives (upm M 44 11 (iShl 1 i))) = 0 then 0 else iShl 1 i)
noncomputable def neverS (M : Mem) : Int := forR 0 (M 44 9) (nvF M) 0
set_option maxHeartbeats 4000000 in
set_option maxRecDepth 100000 in
theorem l_neverNow (G : GT) (M : Mem) (P : Option AV → Mem → Prop) (hB : BI M) (hQ : QI M) (hlohi : (0 : Int) ≤ (M 44 9)) (kk : ∀ (N : Mem), (∃ g, Fq (upm M 44 11 g) N) → AW G RX6 cX6_neverNow 3 (some .int) (XM G 6 P) 42 [(0, vR 44), (1, vI (forR 0 (M 44 9) (nvF M) 0)), (2, vI (M 44 9))] [] N) : AW G RX6 cX6_neverNow 3 (some .int) (XM G 6 P) 4 [(0, vR 44), (1, vI 0), (2, vI 0)] [] M := by
  have key : ∀ (nn : Nat) (i : Int) (b : Int) (N : Mem), (0 : Int) ≤ i → i ≤ (M 44 9) → b = forR 0 i (nvF M) 0 → (∃ g, Fq (upm M 44 11 g) N) → (M 44 9) - i < nn → AW G RX6 cX6_neverNow 3 (some .int) (XM G 6 P) 4 [(0, vR 44), (1, vI b), (2, vI i)] [] N := by
    intro nn
    induction nn with
    | zero => intro i b N hk0 hk1 e_b hF hn; omega
    | succ nn ih =>
      intro i b N hk0 hk1 e_b hF hn
      obtain ⟨g, hF1⟩ := id hF
      have he := hB.1.2
      have e9 : N 44 9 = M 44 9 := hF1 44 9 (by omega) (by omega) (by omega) (by omega)
      have hFs : Fq (upm M 44 11 (iShl 1 i)) (upm N 44 11 (iShl 1 i)) := hF1.set
      have hLs : LI (upm N 44 11 (iShl 1 i)) := (hB.1.fld (j := 11) (by omega)).Fq hFs
      have hQs : QI (upm N 44 11 (iShl 1 i)) := (hQ.of (N := upm M 44 11 (iShl 1 i)) rfl (fun _ => rfl)).Fq hFs
      have eS : seenI (lives (upm N 44 11 (iShl 1 i))) = seenI (lives (upm M 44 11 (iShl 1 i))) := seen_E (hFs.inE hB.2.2) (hB.1.fld (j := 11) (by omega)) (hQ.of (N := upm M 44 11 (iShl 1 i)) rfl (fun _ => rfl)) hFs.q28 hFs.q60
      have hF2 := hFs.trans (Fr_lives (upm N 44 11 (iShl 1 i))).q
      refine a_iload_n (kX6_neverNow.at 4 rfl) 2 rfl ?_
      refine a_aload_n (kX6_neverNow.at 5 rfl) 0 rfl ?_
      refine a_getI (x := N 44 9) (kX6_neverNow.at 6 rfl) fg_X6_128 ii_44_9 (rfl) ?_
      refine a_icmpge (tgt := 42) (kX6_neverNow.at 7 rfl) (by decide) (fun h9 => ?_) (fun h9 => ?_)
      · obtain rfl : i = M 44 9 := by omega
        subst e_b
        exact kk N hF
      · refine a_aload_n (kX6_neverNow.at 8 rfl) 0 rfl ?_
        refine a_iconst (kX6_neverNow.at 9 rfl) rfl ?_
        refine a_iload_n (kX6_neverNow.at 10 rfl) 2 rfl ?_
        refine a_ishl (kX6_neverNow.at 11 rfl) ?_
        refine a_putI (j := 11) (kX6_neverNow.at 12 rfl) fp_X6_174 (ii_44_11) rfl ?_
        refine a_iload_n (kX6_neverNow.at 13 rfl) 1 rfl ?_
        refine a_aload_n (kX6_neverNow.at 14 rfl) 0 rfl ?_
        refine AW.callV (as := []) (st := [vI b]) (kX6_neverNow.at 15 rfl) ml_X6_266 sv_X6_isSeen (k := 44) (io_44) rfl rfl ⟨Nat.le_of_ble_eq_true rfl, Nat.le_of_ble_eq_true rfl⟩ ⟨Nat.le_refl _, Nat.le_refl _⟩ rfl rfl (Nat.le_of_ble_eq_true rfl) (c_isSeen G (upm N 44 11 (iShl 1 i)) hLs hQs) (kIE ?_)
        refine a_ifeq (tgt := 33) (kX6_neverNow.at 16 rfl) (by decide) (fun h24 => ?_) (fun h24 => ?_)
        · refine a_iconst (kX6_neverNow.at 21 rfl) rfl ?_
          refine a_ior (kX6_neverNow.at 22 rfl) ?_
          refine a_istore_n (ls' := [(0, vR 44), (1, vI (iOr b 0)), (2, vI i)]) (kX6_neverNow.at 23 rfl) (by decide) rfl ?_
          refine a_iinc (ls' := [(0, vR 44), (1, vI (iOr b 0)), (2, vI (i + 1))]) (kX6_neverNow.at 24 rfl) 2 rfl (by decide) (inr (by omega)) rfl ?_
          refine a_goto (tgt := 4) (kX6_neverNow.at 25 rfl) (by decide) ?_
          exact ih ((i + 1)) ((iOr b 0)) ((lives (upm N 44 11 (iShl 1 i)))) (by omega) (by omega) (by rw [forR_succ hk0, ← e_b] <;> (clear ih kk e_b; rw [eS] at h24; unfold nvF; first | rw [if_pos h24] | rw [if_neg h24])) (⟨_, hF2⟩) (by omega)
        · refine a_iconst (kX6_neverNow.at 17 rfl) rfl ?_
          refine a_iload_n (kX6_neverNow.at 18 rfl) 2 rfl ?_
          refine a_ishl (kX6_neverNow.at 19 rfl) ?_
          refine a_goto (tgt := 34) (kX6_neverNow.at 20 rfl) (by decide) ?_
          refine a_ior (kX6_neverNow.at 22 rfl) ?_
          refine a_istore_n (ls' := [(0, vR 44), (1, vI (iOr b (iShl 1 i))), (2, vI i)]) (kX6_neverNow.at 23 rfl) (by decide) rfl ?_
          refine a_iinc (ls' := [(0, vR 44), (1, vI (iOr b (iShl 1 i))), (2, vI (i + 1))]) (kX6_neverNow.at 24 rfl) 2 rfl (by decide) (inr (by omega)) rfl ?_
          refine a_goto (tgt := 4) (kX6_neverNow.at 25 rfl) (by decide) ?_
          exact ih ((i + 1)) ((iOr b (iShl 1 i))) ((lives (upm N 44 11 (iShl 1 i)))) (by omega) (by omega) (by rw [forR_succ hk0, ← e_b] <;> (clear ih kk e_b; rw [eS] at h24; unfold nvF; first | rw [if_pos h24] | rw [if_neg h24])) (⟨_, hF2⟩) (by omega)
  exact key ((M 44 9) - (0) + 1 : Int).toNat (0) 0 M (Int.le_refl _) hlohi (forR_nil (Int.le_refl _)).symm (⟨M 44 11, by rw [upm_self]; exact Fq.refl M⟩) (by omega)
theorem c_neverNow (G : GT) (M : Mem) (hB : BI M) (hQ : QI M) : AM G yX6_neverNow cX6_neverNow 3 (some .int) 6 M [vR 44] (pI fun r M' => r = neverS M ∧ Fq M M') := by
  refine AM.mk (own := RX6) rfl sv_X6_neverNow.1.2.2.2.2.2 (Nat.le_of_ble_eq_true rfl) rfl ?_
  have he := hB.1.2
  refine a_iconst (kX6_neverNow.at 0 rfl) rfl ?_
  refine a_istore_n (ls' := [(0, vR 44), (1, vI 0)]) (kX6_neverNow.at 1 rfl) (by decide) rfl ?_
  refine a_iconst (kX6_neverNow.at 2 rfl) rfl ?_
  refine a_istore_n (ls' := [(0, vR 44), (1, vI 0), (2, vI 0)]) (kX6_neverNow.at 3 rfl) (by decide) rfl ?_
  refine l_neverNow G M _ hB hQ (by omega) ?_
  intro N hF
  show AW _ _ _ _ _ _ 42 [(0, vR 44), (1, vI (neverS M)), (2, vI (M 44 9))] [] N
  refine a_aload_n (kX6_neverNow.at 26 rfl) 0 rfl ?_
  refine a_iconst (kX6_neverNow.at 27 rfl) rfl ?_
  refine a_putI (j := 11) (kX6_neverNow.at 28 rfl) fp_X6_174 (ii_44_11) rfl ?_
  refine a_iload_n (kX6_neverNow.at 29 rfl) 1 rfl ?_
  exact a_iret (kX6_neverNow.at 30 rfl) (⟨rfl, by obtain ⟨g, hF1⟩ := hF; have := hF1.back; rw [hB.2.1] at this; exact this⟩)
/-- in the place of person[3 k + d] another -/
noncomputable def soF (M : Mem) (j : Int) : Int → Int → Int := fun v b => iOr b (if seenI (lives (upm M 50 j v)) = 0 then 0 else iShl 1 v)
noncomputable def sortS (M : Mem) (k : Int) : Int := forR 0 3 (soF M (3 * k)) 0
noncomputable def thoughtS (M : Mem) (k : Int) : Int := forR 0 8 (soF M (3 * k + 1)) 0
theorem soE {M N : Mem} {j g v : Int} (hF1 : Fq (upm M 50 j g) N) (hB : BI M) (hQ : QI M) (hL : LI (upm M 50 j v)) : LI (upm N 50 j v) ∧ QI (upm N 50 j v) ∧ InE (upm M 50 j v) (upm N 50 j v) ∧ seenI (lives (upm N 50 j v)) = seenI (lives (upm M 50 j v)) ∧ Fq (upm M 50 j v) (lives (upm N 50 j v)) := by
  have hFs : Fq (upm M 50 j v) (upm N 50 j v) := hF1.set
  have hQ1 : QI (upm M 50 j v) := hQ.of rfl (fun _ => rfl)
  have hi := hFs.inE hB.2.2
  exact ⟨hL.Fq hFs, hQ1.Fq hFs, hi, seen_E hi hL hQ1 hFs.q28 hFs.q60, hFs.trans (Fr_lives _).q⟩
set_option maxHeartbeats 4000000 in
set_option maxRecDepth 100000 in
theorem l_sortOf (G : GT) (M : Mem) (k was : Int) (P : Option AV → Mem → Prop) (hB : BI M) (hQ : QI M) (hk : 0 ≤ k ∧ k < M 44 7) (hlohi : (0 : Int) ≤ 3) (kk : ∀ (N : Mem), (∃ g, Fq (upm M 50 (3 * k) g) N) → AW G RX6 cX6_sortOf 5 (some .int) (XM G 6 P) 54 [(0, vR 44), (1, vI k), (2, vI was), (3, vI (forR 0 3 (soF M (3 * k)) 0)), (4, vI 3)] [] N) : AW G RX6 cX6_sortOf 5 (some .int) (XM G 6 P) 14 [(0, vR 44), (1, vI k), (2, vI was), (3, vI 0), (4, vI 0)] [] M := by
  have key : ∀ (nn : Nat) (v : Int) (b : Int) (N : Mem), (0 : Int) ≤ v → v ≤ 3 → b = forR 0 v (soF M (3 * k)) 0 → (∃ g, Fq (upm M 50 (3 * k) g) N) → 3 - v < nn → AW G RX6 cX6_sortOf 5 (some .int) (XM G 6 P) 14 [(0, vR 44), (1, vI k), (2, vI was), (3, vI b), (4, vI v)] [] N := by
    intro nn
    induction nn with
    | zero => intro v b N hk0 hk1 e_b hF hn; omega
    | succ nn ih =>
      intro v b N hk0 hk1 e_b hF hn
      obtain ⟨g, hF1⟩ := id hF
      have hp := hB.1.1.1
      have hE := soE (v := v) hF1 hB hQ hB.1.sort
      refine a_iload (kX6_sortOf.at 11 rfl) 4 rfl ?_
      refine a_iconst (kX6_sortOf.at 12 rfl) rfl ?_
      refine a_icmpge (tgt := 54) (kX6_sortOf.at 13 rfl) (by decide) (fun h17 => ?_) (fun h17 => ?_)
      · obtain rfl : v = 3 := by omega
        subst e_b
        exact kk N hF
      · refine a_aload_n (kX6_sortOf.at 14 rfl) 0 rfl ?_
        refine a_getR (kX6_sortOf.at 15 rfl) fg_X6_25 ir_44_8 ?_
        refine a_iconst (kX6_sortOf.at 16 rfl) rfl ?_
        refine a_iload_n (kX6_sortOf.at 17 rfl) 1 rfl ?_
        refine a_imul (kX6_sortOf.at 18 rfl) (inr (by omega)) ?_
        refine a_iload (kX6_sortOf.at 19 rfl) 4 rfl ?_
        refine a_iast (kX6_sortOf.at 20 rfl) (ia_50) (by omega) ?_
        refine a_iload_n (kX6_sortOf.at 21 rfl) 3 rfl ?_
        refine a_aload_n (kX6_sortOf.at 22 rfl) 0 rfl ?_
        refine AW.callV (as := []) (st := [vI b]) (kX6_sortOf.at 23 rfl) ml_X6_266 sv_X6_isSeen (k := 44) (io_44) rfl rfl ⟨Nat.le_of_ble_eq_true rfl, Nat.le_of_ble_eq_true rfl⟩ ⟨Nat.le_refl _, Nat.le_refl _⟩ rfl rfl (Nat.le_of_ble_eq_true rfl) (c_isSeen G (upm N 50 (3 * k) v) hE.1 hE.2.1) (kIE ?_)
        refine a_ifeq (tgt := 45) (kX6_sortOf.at 24 rfl) (by decide) (fun h35 => ?_) (fun h35 => ?_)
        · refine a_iconst (kX6_sortOf.at 29 rfl) rfl ?_
          refine a_ior (kX6_sortOf.at 30 rfl) ?_
          refine a_istore_n (ls' := [(0, vR 44), (1, vI k), (2, vI was), (3, vI (iOr b 0)), (4, vI v)]) (kX6_sortOf.at 31 rfl) (by decide) rfl ?_
          refine a_iinc (ls' := [(0, vR 44), (1, vI k), (2, vI was), (3, vI (iOr b 0)), (4, vI (v + 1))]) (kX6_sortOf.at 32 rfl) 4 rfl (by decide) (inr (by omega)) rfl ?_
          refine a_goto (tgt := 14) (kX6_sortOf.at 33 rfl) (by decide) ?_
          exact ih ((v + 1)) ((iOr b 0)) ((lives (upm N 50 (3 * k) v))) (by omega) (by omega) (by rw [forR_succ hk0, ← e_b] <;> (clear ih kk e_b; rw [hE.2.2.2.1] at h35; unfold soF; first | rw [if_pos h35] | rw [if_neg h35])) (⟨_, hE.2.2.2.2⟩) (by omega)
        · refine a_iconst (kX6_sortOf.at 25 rfl) rfl ?_
          refine a_iload (kX6_sortOf.at 26 rfl) 4 rfl ?_
          refine a_ishl (kX6_sortOf.at 27 rfl) ?_
          refine a_goto (tgt := 46) (kX6_sortOf.at 28 rfl) (by decide) ?_
          refine a_ior (kX6_sortOf.at 30 rfl) ?_
          refine a_istore_n (ls' := [(0, vR 44), (1, vI k), (2, vI was), (3, vI (iOr b (iShl 1 v))), (4, vI v)]) (kX6_sortOf.at 31 rfl) (by decide) rfl ?_
          refine a_iinc (ls' := [(0, vR 44), (1, vI k), (2, vI was), (3, vI (iOr b (iShl 1 v))), (4, vI (v + 1))]) (kX6_sortOf.at 32 rfl) 4 rfl (by decide) (inr (by omega)) rfl ?_
          refine a_goto (tgt := 14) (kX6_sortOf.at 33 rfl) (by decide) ?_
          exact ih ((v + 1)) ((iOr b (iShl 1 v))) ((lives (upm N 50 (3 * k) v))) (by omega) (by omega) (by rw [forR_succ hk0, ← e_b] <;> (clear ih kk e_b; rw [hE.2.2.2.1] at h35; unfold soF; first | rw [if_pos h35] | rw [if_neg h35])) (⟨_, hE.2.2.2.2⟩) (by omega)
  exact key ((3) - (0) + 1 : Int).toNat (0) 0 M (Int.le_refl _) hlohi (forR_nil (Int.le_refl _)).symm (⟨M 50 (3 * k), by rw [upm_self]; exact Fq.refl M⟩) (by omega)
theorem c_sortOf (G : GT) (M : Mem) (k : Int) (hB : BI M) (hQ : QI M) (hk : 0 ≤ k ∧ k < M 44 7) : AM G yX6_sortOf cX6_sortOf 5 (some .int) 6 M [vR 44, vI k] (pI fun r M' => r = sortS M k ∧ Fq M M') := by
  refine AM.mk (own := RX6) rfl sv_X6_sortOf.1.2.2.2.2.2 (Nat.le_of_ble_eq_true rfl) rfl ?_
  have hp := hB.1.1.1
  refine a_aload_n (kX6_sortOf.at 0 rfl) 0 rfl ?_
  refine a_getR (kX6_sortOf.at 1 rfl) fg_X6_25 ir_44_8 ?_
  refine a_iconst (kX6_sortOf.at 2 rfl) rfl ?_
  refine a_iload_n (kX6_sortOf.at 3 rfl) 1 rfl ?_
  refine a_imul (kX6_sortOf.at 4 rfl) (inr (by omega)) ?_
  refine a_iald (x := M 50 (3 * k)) (kX6_sortOf.at 5 rfl) (ia_50) (by omega) (rfl) ?_
  refine a_istore_n (ls' := [(0, vR 44), (1, vI k), (2, vI (M 50 (3 * k)))]) (kX6_sortOf.at 6 rfl) (by decide) rfl ?_
  refine a_iconst (kX6_sortOf.at 7 rfl) rfl ?_
  refine a_istore_n (ls' := [(0, vR 44), (1, vI k), (2, vI (M 50 (3 * k))), (3, vI 0)]) (kX6_sortOf.at 8 rfl) (by decide) rfl ?_
  refine a_iconst (kX6_sortOf.at 9 rfl) rfl ?_
  refine a_istore (ls' := [(0, vR 44), (1, vI k), (2, vI (M 50 (3 * k))), (3, vI 0), (4, vI 0)]) (kX6_sortOf.at 10 rfl) (by decide) rfl ?_
  refine l_sortOf G M k _ _ hB hQ hk (by omega) ?_
  intro N hF
  show AW _ _ _ _ _ _ 54 [(0, vR 44), (1, vI k), (2, vI (M 50 (3 * k))), (3, vI (sortS M k)), (4, vI 3)] [] N
  refine a_aload_n (kX6_sortOf.at 34 rfl) 0 rfl ?_
  refine a_getR (kX6_sortOf.at 35 rfl) fg_X6_25 ir_44_8 ?_
  refine a_iconst (kX6_sortOf.at 36 rfl) rfl ?_
  refine a_iload_n (kX6_sortOf.at 37 rfl) 1 rfl ?_
  refine a_imul (kX6_sortOf.at 38 rfl) (inr (by omega)) ?_
  refine a_iload_n (kX6_sortOf.at 39 rfl) 2 rfl ?_
  refine a_iast (kX6_sortOf.at 40 rfl) (ia_50) (by omega) ?_
  refine a_iload_n (kX6_sortOf.at 41 rfl) 3 rfl ?_
  exact a_iret (kX6_sortOf.at 42 rfl) (⟨rfl, by obtain ⟨g, hF1⟩ := hF; exact hF1.back⟩)
/-- where one is behind a quarter, with these views -/
noncomputable def hsT (M : Mem) (k v q : Int) : Int := lives (upm M 50 (3 * k + 1) v) 56 (8 * q + k)
noncomputable def thH (k v : Int) : Int → Mem → Mem := fun q N => upm N 61 (16 * v + q) (N 56 (8 * q + k))
set_option maxHeartbeats 4000000 in
set_option maxRecDepth 100000 in
theorem l_thoughtH (G : GT) (M : Mem) (k was b v : Int) (X : XT) (hk : 0 ≤ k ∧ k ≤ 7) (hv : 0 ≤ v ∧ v ≤ 7) (hlohi : (0 : Int) ≤ 16) (kk : AW G RX6 cX6_thoughtOf 6 (some .int) X 94 [(0, vR 44), (1, vI k), (2, vI was), (3, vI b), (4, vI v), (5, vI 16)] [] (forR 0 16 (thH k v) M)) : AW G RX6 cX6_thoughtOf 6 (some .int) X 56 [(0, vR 44), (1, vI k), (2, vI was), (3, vI b), (4, vI v), (5, vI 0)] [] M := by
  have key : ∀ (nn : Nat) (q : Int) (N : Mem), (0 : Int) ≤ q → q ≤ 16 → N = forR 0 q (thH k v) M → 16 - q < nn → AW G RX6 cX6_thoughtOf 6 (some .int) X 56 [(0, vR 44), (1, vI k), (2, vI was), (3, vI b), (4, vI v), (5, vI q)] [] N := by
    intro nn
    induction nn with
    | zero => intro q N hk0 hk1 e_N  hn; omega
    | succ nn ih =>
      intro q N hk0 hk1 e_N  hn
      refine a_iload (kX6_thoughtOf.at 38 rfl) 5 rfl ?_
      refine a_bipush (kX6_thoughtOf.at 39 rfl) rfl rfl ?_
      refine a_icmpge (tgt := 94) (kX6_thoughtOf.at 40 rfl) (by decide) (fun h60 => ?_) (fun h60 => ?_)
      · obtain rfl : q = 16 := by omega
        subst e_N
        exact kk 
      · refine a_aload_n (kX6_thoughtOf.at 41 rfl) 0 rfl ?_
        refine a_getR (kX6_thoughtOf.at 42 rfl) fg_X6_58 ir_44_30 ?_
        refine a_bipush (kX6_thoughtOf.at 43 rfl) rfl rfl ?_
        refine a_iload (kX6_thoughtOf.at 44 rfl) 4 rfl ?_
        refine a_imul (kX6_thoughtOf.at 45 rfl) (inr (by omega)) ?_
        refine a_iload (kX6_thoughtOf.at 46 rfl) 5 rfl ?_
        refine a_iadd (kX6_thoughtOf.at 47 rfl) (inr (by omega)) ?_
        refine a_aload_n (kX6_thoughtOf.at 48 rfl) 0 rfl ?_
        refine a_getR (kX6_thoughtOf.at 49 rfl) fg_X6_43 ir_44_19 ?_
        refine a_bipush (kX6_thoughtOf.at 50 rfl) rfl rfl ?_
        refine a_iload (kX6_thoughtOf.at 51 rfl) 5 rfl ?_
        refine a_imul (kX6_thoughtOf.at 52 rfl) (inr (by omega)) ?_
        refine a_iload_n (kX6_thoughtOf.at 53 rfl) 1 rfl ?_
        refine a_iadd (kX6_thoughtOf.at 54 rfl) (inr (by omega)) ?_
        refine a_iald (x := N 56 ((8 * q) + k)) (kX6_thoughtOf.at 55 rfl) (ia_56) (by omega) (rfl) ?_
        refine a_iast (kX6_thoughtOf.at 56 rfl) (ia_61) (by omega) ?_
        refine a_iinc (ls' := [(0, vR 44), (1, vI k), (2, vI was), (3, vI b), (4, vI v), (5, vI (q + 1))]) (kX6_thoughtOf.at 57 rfl) 5 rfl (by decide) (inr (by omega)) rfl ?_
        refine a_goto (tgt := 56) (kX6_thoughtOf.at 58 rfl) (by decide) ?_
        exact ih ((q + 1)) ((upm N 61 ((16 * v) + q) (N 56 ((8 * q) + k)))) (by omega) (by omega) (by rw [forR_succ hk0, ← e_N] <;> (clear ih kk e_N; rfl)) (by omega)
  exact key ((16) - (0) + 1 : Int).toNat (0) M (Int.le_refl _) hlohi (forR_nil (Int.le_refl _)).symm  (by omega)
theorem thH_all (M : Mem) (k v : Int) : (∀ (c : Nat) (j : Int), (c = 61 → j < 16 * v ∨ 16 * v + 16 ≤ j) → forR 0 16 (thH k v) M c j = M c j) ∧ ∀ q, 0 ≤ q → q < 16 → forR 0 16 (thH k v) M 61 (16 * v + q) = M 56 (8 * q + k) := by
  refine forR_inv (lo := 0) (hi := 16) (fun i (K : Mem) => (∀ (c : Nat) (j : Int), (c = 61 → j < 16 * v ∨ 16 * v + 16 ≤ j) → K c j = M c j) ∧ ∀ q, 0 ≤ q → q < i → K 61 (16 * v + q) = M 56 (8 * q + k)) (by omega) ⟨fun _ _ _ => rfl, fun q a b => by omega⟩ ?_
  intro i K h1 h2 hK
  unfold thH
  refine ⟨fun c j hc => ?_, fun q a b => ?_⟩
  · by_cases e : c = 61
    · subst e
      rw [rd_ni (by omega)]
      exact hK.1 61 j hc
    · rw [rd_ne e]
      exact hK.1 c j hc
  · by_cases e : q = i
    · subst e
      rw [rd_eq]
      exact hK.1 56 _ (by omega)
    · rw [rd_ni (by omega)]
      exact hK.2 q a (by omega)
theorem thH_Fq (M : Mem) (k v : Int) : Fq M (forR 0 16 (thH k v) M) := fun c j a b _ _ => (thH_all M k v).1 c j (fun e => absurd e b)
set_option maxHeartbeats 4000000 in
set_option maxRecDepth 100000 in
theorem l_thoughtOf (G : GT) (M : Mem) (k was : Int) (P : Option AV → Mem → Prop) (hB : BI M) (hQ : QI M) (hk : 0 ≤ k ∧ k < M 44 7) (hlohi : (0 : Int) ≤ 8) (kk : ∀ (N : Mem), (∃ g, Fq (upm M 50 (3 * k + 1) g) N) → (∀ u q, 0 ≤ u → u < 8 → 0 ≤ q → q < 16 → N 61 (16 * u + q) = hsT M k u q) → AW G RX6 cX6_thoughtOf 6 (some .int) (XM G 6 P) 100 [(0, vR 44), (1, vI k), (2, vI was), (3, vI (forR 0 8 (soF M (3 * k + 1)) 0)), (4, vI 8)] [] N) : AW G RX6 cX6_thoughtOf 6 (some .int) (XM G 6 P) 16 [(0, vR 44), (1, vI k), (2, vI was), (3, vI 0), (4, vI 0)] [] M := by
  have key : ∀ (nn : Nat) (v : Int) (b : Int) (N : Mem), (0 : Int) ≤ v → v ≤ 8 → b = forR 0 v (soF M (3 * k + 1)) 0 → (∃ g, Fq (upm M 50 (3 * k + 1) g) N) → (∀ u q, 0 ≤ u → u < v → 0 ≤ q → q < 16 → N 61 (16 * u + q) = hsT M k u q) → 8 - v < nn → AW G RX6 cX6_thoughtOf 6 (some .int) (XM G 6 P) 16 [(0, vR 44), (1, vI k), (2, vI was), (3, vI b), (4, vI v)] [] N := by
    intro nn
    induction nn with
    | zero => intro v b N hk0 hk1 e_b hF hH hn; omega
    | succ nn ih =>
      intro v b N hk0 hk1 e_b hF hH hn
      obtain ⟨g, hF1⟩ := id hF
      have hp := hB.1.1.1
      have hE := soE (v := v) hF1 hB hQ hB.1.views
      have hO := lives_E hE.2.2.1 (show 0 ≤ upm M 50 (3 * k + 1) v 44 7 ∧ upm M 50 (3 * k + 1) v 44 7 ≤ 8 from hp)
      refine a_iload (kX6_thoughtOf.at 13 rfl) 4 rfl ?_
      refine a_bipush (kX6_thoughtOf.at 14 rfl) rfl rfl ?_
      refine a_icmpge (tgt := 100) (kX6_thoughtOf.at 15 rfl) (by decide) (fun h20 => ?_) (fun h20 => ?_)
      · obtain rfl : v = 8 := by omega
        subst e_b
        exact kk N hF hH
      · refine a_aload_n (kX6_thoughtOf.at 16 rfl) 0 rfl ?_
        refine a_getR (kX6_thoughtOf.at 17 rfl) fg_X6_25 ir_44_8 ?_
        refine a_iconst (kX6_thoughtOf.at 18 rfl) rfl ?_
        refine a_iload_n (kX6_thoughtOf.at 19 rfl) 1 rfl ?_
        refine a_imul (kX6_thoughtOf.at 20 rfl) (inr (by omega)) ?_
        refine a_iconst (kX6_thoughtOf.at 21 rfl) rfl ?_
        refine a_iadd (kX6_thoughtOf.at 22 rfl) (inr (by omega)) ?_
        refine a_iload (kX6_thoughtOf.at 23 rfl) 4 rfl ?_
        refine a_iast (kX6_thoughtOf.at 24 rfl) (ia_50) (by omega) ?_
        refine a_iload_n (kX6_thoughtOf.at 25 rfl) 3 rfl ?_
        refine a_aload_n (kX6_thoughtOf.at 26 rfl) 0 rfl ?_
        refine AW.callV (as := []) (st := [vI b]) (kX6_thoughtOf.at 27 rfl) ml_X6_266 sv_X6_isSeen (k := 44) (io_44) rfl rfl ⟨Nat.le_of_ble_eq_true rfl, Nat.le_of_ble_eq_true rfl⟩ ⟨Nat.le_refl _, Nat.le_refl _⟩ rfl rfl (Nat.le_of_ble_eq_true rfl) (c_isSeen G (upm N 50 ((3 * k) + 1) v) hE.1 hE.2.1) (kIE ?_)
        refine a_ifeq (tgt := 50) (kX6_thoughtOf.at 28 rfl) (by decide) (fun h40 => ?_) (fun h40 => ?_)
        · refine a_iconst (kX6_thoughtOf.at 33 rfl) rfl ?_
          refine a_ior (kX6_thoughtOf.at 34 rfl) ?_
          refine a_istore_n (ls' := [(0, vR 44), (1, vI k), (2, vI was), (3, vI (iOr b 0)), (4, vI v)]) (kX6_thoughtOf.at 35 rfl) (by decide) rfl ?_
          refine a_iconst (kX6_thoughtOf.at 36 rfl) rfl ?_
          refine a_istore (ls' := [(0, vR 44), (1, vI k), (2, vI was), (3, vI (iOr b 0)), (4, vI v), (5, vI 0)]) (kX6_thoughtOf.at 37 rfl) (by decide) rfl ?_
          refine l_thoughtH G (lives (upm N 50 ((3 * k) + 1) v)) k was (iOr b 0) v _ (by omega) (by omega) (by omega) ?_
          show AW _ _ _ _ _ _ 94 [(0, vR 44), (1, vI k), (2, vI was), (3, vI (iOr b 0)), (4, vI v), (5, vI 16)] [] (forR 0 16 (thH k v) (lives (upm N 50 ((3 * k) + 1) v)))
          refine a_iinc (ls' := [(0, vR 44), (1, vI k), (2, vI was), (3, vI (iOr b 0)), (4, vI (v + 1)), (5, vI 16)]) (kX6_thoughtOf.at 59 rfl) 4 rfl (by decide) (inr (by omega)) rfl ?_
          refine a_goto (tgt := 16) (kX6_thoughtOf.at 60 rfl) (by decide) ?_
          refine AW.loc (ls' := [(0, vR 44), (1, vI k), (2, vI was), (3, vI (iOr b 0)), (4, vI (v + 1))]) [0, 1, 2, 3, 4] rfl ?_
          exact ih ((v + 1)) ((iOr b 0)) ((forR 0 16 (thH k v) (lives (upm N 50 ((3 * k) + 1) v)))) (by omega) (by omega) (by rw [forR_succ hk0, ← e_b] <;> (clear ih kk e_b; rw [hE.2.2.2.1] at h40; unfold soF; first | rw [if_pos h40] | rw [if_neg h40])) (⟨_, hE.2.2.2.2.trans (thH_Fq _ k v)⟩) (fun u q a b c d => if e : u = v then (by subst e; rw [(thH_all _ k u).2 q c d]; exact hO.2 q k 0 c (by omega) hk.1 (by rw [(Fr_lives _).people]; exact hk.2) (by omega)) else (by rw [(thH_all _ k v).1 61 _ (fun _ => by omega), (Fr_lives (upm N 50 (3 * k + 1) v)) 61 _ (by omega) (by omega), rd_ne (by decide)]; exact hH u q a (by omega) c d)) (by omega)
        · refine a_iconst (kX6_thoughtOf.at 29 rfl) rfl ?_
          refine a_iload (kX6_thoughtOf.at 30 rfl) 4 rfl ?_
          refine a_ishl (kX6_thoughtOf.at 31 rfl) ?_
          refine a_goto (tgt := 51) (kX6_thoughtOf.at 32 rfl) (by decide) ?_
          refine a_ior (kX6_thoughtOf.at 34 rfl) ?_
          refine a_istore_n (ls' := [(0, vR 44), (1, vI k), (2, vI was), (3, vI (iOr b (iShl 1 v))), (4, vI v)]) (kX6_thoughtOf.at 35 rfl) (by decide) rfl ?_
          refine a_iconst (kX6_thoughtOf.at 36 rfl) rfl ?_
          refine a_istore (ls' := [(0, vR 44), (1, vI k), (2, vI was), (3, vI (iOr b (iShl 1 v))), (4, vI v), (5, vI 0)]) (kX6_thoughtOf.at 37 rfl) (by decide) rfl ?_
          refine l_thoughtH G (lives (upm N 50 ((3 * k) + 1) v)) k was (iOr b (iShl 1 v)) v _ (by omega) (by omega) (by omega) ?_
          show AW _ _ _ _ _ _ 94 [(0, vR 44), (1, vI k), (2, vI was), (3, vI (iOr b (iShl 1 v))), (4, vI v), (5, vI 16)] [] (forR 0 16 (thH k v) (lives (upm N 50 ((3 * k) + 1) v)))
          refine a_iinc (ls' := [(0, vR 44), (1, vI k), (2, vI was), (3, vI (iOr b (iShl 1 v))), (4, vI (v + 1)), (5, vI 16)]) (kX6_thoughtOf.at 59 rfl) 4 rfl (by decide) (inr (by omega)) rfl ?_
          refine a_goto (tgt := 16) (kX6_thoughtOf.at 60 rfl) (by decide) ?_
          refine AW.loc (ls' := [(0, vR 44), (1, vI k), (2, vI was), (3, vI (iOr b (iShl 1 v))), (4, vI (v + 1))]) [0, 1, 2, 3, 4] rfl ?_
          exact ih ((v + 1)) ((iOr b (iShl 1 v))) ((forR 0 16 (thH k v) (lives (upm N 50 ((3 * k) + 1) v)))) (by omega) (by omega) (by rw [forR_succ hk0, ← e_b] <;> (clear ih kk e_b; rw [hE.2.2.2.1] at h40; unfold soF; first | rw [if_pos h40] | rw [if_neg h40])) (⟨_, hE.2.2.2.2.trans (thH_Fq _ k v)⟩) (fun u q a b c d => if e : u = v then (by subst e; rw [(thH_all _ k u).2 q c d]; exact hO.2 q k 0 c (by omega) hk.1 (by rw [(Fr_lives _).people]; exact hk.2) (by omega)) else (by rw [(thH_all _ k v).1 61 _ (fun _ => by omega), (Fr_lives (upm N 50 (3 * k + 1) v)) 61 _ (by omega) (by omega), rd_ne (by decide)]; exact hH u q a (by omega) c d)) (by omega)
  exact key ((8) - (0) + 1 : Int).toNat (0) 0 M (Int.le_refl _) hlohi (forR_nil (Int.le_refl _)).symm (⟨M 50 (3 * k + 1), by rw [upm_self]; exact Fq.refl M⟩) (fun u q a b => by omega) (by omega)
theorem c_thoughtOf (G : GT) (M : Mem) (k : Int) (hB : BI M) (hQ : QI M) (hk : 0 ≤ k ∧ k < M 44 7) : AM G yX6_thoughtOf cX6_thoughtOf 6 (some .int) 6 M [vR 44, vI k] (pI fun r M' => r = thoughtS M k ∧ Fq M M' ∧ ∀ u q, 0 ≤ u → u < 8 → 0 ≤ q → q < 16 → M' 61 (16 * u + q) = hsT M k u q) := by
  refine AM.mk (own := RX6) rfl sv_X6_thoughtOf.1.2.2.2.2.2 (Nat.le_of_ble_eq_true rfl) rfl ?_
  have hp := hB.1.1.1
  refine a_aload_n (kX6_thoughtOf.at 0 rfl) 0 rfl ?_
  refine a_getR (kX6_thoughtOf.at 1 rfl) fg_X6_25 ir_44_8 ?_
  refine a_iconst (kX6_thoughtOf.at 2 rfl) rfl ?_
  refine a_iload_n (kX6_thoughtOf.at 3 rfl) 1 rfl ?_
  refine a_imul (kX6_thoughtOf.at 4 rfl) (inr (by omega)) ?_
  refine a_iconst (kX6_thoughtOf.at 5 rfl) rfl ?_
  refine a_iadd (kX6_thoughtOf.at 6 rfl) (inr (by omega)) ?_
  refine a_iald (x := M 50 ((3 * k) + 1)) (kX6_thoughtOf.at 7 rfl) (ia_50) (by omega) (rfl) ?_
  refine a_istore_n (ls' := [(0, vR 44), (1, vI k), (2, vI (M 50 ((3 * k) + 1)))]) (kX6_thoughtOf.at 8 rfl) (by decide) rfl ?_
  refine a_iconst (kX6_thoughtOf.at 9 rfl) rfl ?_
  refine a_istore_n (ls' := [(0, vR 44), (1, vI k), (2, vI (M 50 ((3 * k) + 1))), (3, vI 0)]) (kX6_thoughtOf.at 10 rfl) (by decide) rfl ?_
  refine a_iconst (kX6_thoughtOf.at 11 rfl) rfl ?_
  refine a_istore (ls' := [(0, vR 44), (1, vI k), (2, vI (M 50 ((3 * k) + 1))), (3, vI 0), (4, vI 0)]) (kX6_thoughtOf.at 12 rfl) (by decide) rfl ?_
  refine l_thoughtOf G M k _ _ hB hQ hk (by omega) ?_
  intro N hF hH
  show AW _ _ _ _ _ _ 100 [(0, vR 44), (1, vI k), (2, vI (M 50 ((3 * k) + 1))), (3, vI (thoughtS M k)), (4, vI 8)] [] N
  refine a_aload_n (kX6_thoughtOf.at 61 rfl) 0 rfl ?_
  refine a_getR (kX6_thoughtOf.at 62 rfl) fg_X6_25 ir_44_8 ?_
  refine a_iconst (kX6_thoughtOf.at 63 rfl) rfl ?_
  refine a_iload_n (kX6_thoughtOf.at 64 rfl) 1 rfl ?_
  refine a_imul (kX6_thoughtOf.at 65 rfl) (inr (by omega)) ?_
  refine a_iconst (kX6_thoughtOf.at 66 rfl) rfl ?_
  refine a_iadd (kX6_thoughtOf.at 67 rfl) (inr (by omega)) ?_
  refine a_iload_n (kX6_thoughtOf.at 68 rfl) 2 rfl ?_
  refine a_iast (kX6_thoughtOf.at 69 rfl) (ia_50) (by omega) ?_
  refine a_iload_n (kX6_thoughtOf.at 70 rfl) 3 rfl ?_
  exact a_iret (kX6_thoughtOf.at 71 rfl) (⟨rfl, by obtain ⟨g, hF1⟩ := hF; exact hF1.back, fun u q a b c d => by rw [rd_ne (by decide)]; exact hH u q a b c d⟩)
