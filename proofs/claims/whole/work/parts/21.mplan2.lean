/-! ===== the reference: plans, what they leave behind ===== -/
/-- only scratch differs -/
noncomputable def Fq (M N : Mem) : Prop := ∀ (c : Nat) (j : Int), ¬ (52 ≤ c ∧ c ≤ 59) → c ≠ 61 → c ≠ 62 → ¬ (c = 44 ∧ (j = 13 ∨ j = 14 ∨ (23 ≤ j ∧ j ≤ 27) ∨ j = 31)) → N c j = M c j
theorem Fq.refl (M : Mem) : Fq M M := fun _ _ _ _ _ _ => rfl
theorem Fq.trans {M N K : Mem} (h1 : Fq M N) (h2 : Fq N K) : Fq M K := fun c j a b d e => (h2 c j a b d e).trans (h1 c j a b d e)
theorem Fr.q {M N : Mem} (h : Fr M N) : Fq M N := fun c j a _ _ d => h c j a (by omega)
theorem Fq.up {M N : Mem} (h : Fq M N) {c : Nat} {i v : Int} (hc : (52 ≤ c ∧ c ≤ 59) ∨ c = 61 ∨ c = 62 ∨ (c = 44 ∧ (i = 13 ∨ i = 14 ∨ (23 ≤ i ∧ i ≤ 27) ∨ i = 31))) : Fq M (upm N c i v) := by
  intro c' j' a b d e
  rw [← h c' j' a b d e]
  by_cases e1 : c' = c
  · subst e1
    rw [upm_same, ups_ne (by omega)]
  · rw [upm_ne e1]
/-- one place of a memory is as it was told, whatever was there -/
theorem Fq.back {M N : Mem} {c : Nat} {i v : Int} (h : Fq (upm M c i v) N) : Fq M (upm N c i (M c i)) := by
  intro c' j' a b d e
  by_cases e1 : c' = c
  · subst e1
    by_cases e2 : j' = i
    · subst e2; rw [upm_same, ups_same]
    · rw [upm_same, ups_ne e2, h c' j' a b d e, upm_same, ups_ne e2]
  · rw [upm_ne e1, h c' j' a b d e, upm_ne e1]
theorem Fq.set {M N : Mem} {c : Nat} {i v w : Int} (h : Fq (upm M c i v) N) : Fq (upm M c i w) (upm N c i w) := by
  intro c' j' a b d e
  by_cases e1 : c' = c
  · subst e1
    by_cases e2 : j' = i
    · subst e2; rw [upm_same, upm_same, ups_same, ups_same]
    · rw [upm_same, upm_same, ups_ne e2, ups_ne e2, h c' j' a b d e, upm_same, ups_ne e2]
  · rw [upm_ne e1, upm_ne e1, h c' j' a b d e, upm_ne e1]
theorem Fq.upboth {M N : Mem} (h : Fq M N) (c : Nat) (i v : Int) : Fq (upm M c i v) (upm N c i v) := by
  intro c' j' a b d e
  by_cases e1 : c' = c
  · subst e1
    by_cases e2 : j' = i
    · subst e2; rw [upm_same, upm_same, ups_same, ups_same]
    · rw [upm_same, upm_same, ups_ne e2, ups_ne e2, h c' j' a b d e]
  · rw [upm_ne e1, upm_ne e1, h c' j' a b d e]
theorem upm_self (M : Mem) (c : Nat) (i : Int) : upm M c i (M c i) = M := by
  funext c' j'
  by_cases e1 : c' = c
  · subst e1
    by_cases e2 : j' = i
    · subst e2; rw [upm_same, ups_same]
    · rw [upm_same, ups_ne e2]
  · rw [upm_ne e1]
theorem Fq.inE {M N : Mem} (h : Fq M N) (h12 : M 44 12 = -1) : InE M N := ⟨⟨h 44 7 (by omega) (by omega) (by omega) (by omega), h 44 9 (by omega) (by omega) (by omega) (by omega), h 44 11 (by omega) (by omega) (by omega) (by omega), h 44 12 (by omega) (by omega) (by omega) (by omega), Or.inl h12⟩, fun j _ _ => h 50 j (by omega) (by omega) (by omega) (by omega), fun j _ _ => h 51 j (by omega) (by omega) (by omega) (by omega)⟩
theorem Fq.inE' {M N : Mem} (h : Fq M N) (h13 : N 44 13 = M 44 13) (h14 : M 44 13 = 3 ∨ N 44 14 = M 44 14) : InE M N := ⟨⟨h 44 7 (by omega) (by omega) (by omega) (by omega), h 44 9 (by omega) (by omega) (by omega) (by omega), h 44 11 (by omega) (by omega) (by omega) (by omega), h 44 12 (by omega) (by omega) (by omega) (by omega), Or.inr ⟨h13, h14⟩⟩, fun j _ _ => h 50 j (by omega) (by omega) (by omega) (by omega), fun j _ _ => h 51 j (by omega) (by omega) (by omega) (by omega)⟩
theorem LI.Fq {M N : Mem} (h : LI M) (hF : Fq M N) : LI N := by
  have e7 := hF 44 7 (by omega) (by omega) (by omega) (by omega)
  have e9 := hF 44 9 (by omega) (by omega) (by omega) (by omega)
  refine ⟨⟨by rw [e7]; exact h.1.1, fun k a b => ?_⟩, by rw [e9]; exact h.2⟩
  rw [hF 50 (3 * k + 2) (by omega) (by omega) (by omega) (by omega)]
  exact h.1.2 k a (by rw [e7] at b; exact b)
/-- lives(), gone and the odd event at rest -/
noncomputable def BI (M : Mem) : Prop := LI M ∧ M 44 11 = 0 ∧ M 44 12 = -1
theorem BI.Fq {M N : Mem} (h : BI M) (hF : Fq M N) : BI N := ⟨h.1.Fq hF, (hF 44 11 (by omega) (by omega) (by omega) (by omega)).trans h.2.1, (hF 44 12 (by omega) (by omega) (by omega) (by omega)).trans h.2.2⟩
theorem Fq.p {M N : Mem} (hF : Fq M N) : N 44 7 = M 44 7 := hF 44 7 (by omega) (by omega) (by omega) (by omega)
noncomputable def mvS (M : Mem) (k h : Int) : Int := movesNow (lives (upm M 50 (3 * k + 2) h))
noncomputable def stP (M : Mem) (k : Int) : Int → Int × Int → Int × Int := fun h z => if isFree M k h = 0 then z else (if mvS M k h < z.2 then h else z.1, lesser (mvS M k h) z.2)
noncomputable def settleS (M : Mem) (k w : Int) : Int := if w = 0 then (forR 0 10 (stP M k) (-1, 999)).1 else (forR 0 10 (stP M k) (-1, 999)).2
theorem isFree_E {M N : Mem} {k h v : Int} (hF : Fq (upm M 50 (3 * k + 2) v) N) (hp : 0 ≤ M 44 7) : isFree N k h = isFree M k h := by
  unfold isFree
  rw [hF.p, show upm M 50 (3 * k + 2) v 44 7 = M 44 7 from rfl]
  refine forR_cong fun j is a b => ?_
  unfold ifF
  by_cases e : j = k
  · simp [e]
  · rw [hF 50 (3 * j + 2) (by omega) (by omega) (by omega) (by omega), upm_same, ups_ne (by omega)]
theorem mvS_E {M N : Mem} {k h v : Int} (hF : Fq (upm M 50 (3 * k + 2) v) N) (hB : BI M) : movesNow (lives (upm N 50 (3 * k + 2) h)) = mvS M k h := by
  have h1 : Fq (upm M 50 (3 * k + 2) h) (upm N 50 (3 * k + 2) h) := hF.set
  exact movesNow_E (lives_E (h1.inE hB.2.2) hB.1.1.1)
set_option maxHeartbeats 4000000 in
set_option maxRecDepth 100000 in
theorem l_settleOf (G : GT) (M : Mem) (k w was : Int) (P : Option AV → Mem → Prop) (hB : BI M) (hk : 0 ≤ k ∧ k < M 44 7) (hlohi : (0 : Int) ≤ 10) (kk : ∀ (N : Mem), (∃ v, (0 ≤ v ∧ v ≤ 9) ∧ Fq (upm M 50 (3 * k + 2) v) N) → AW G RX6 cX6_settleOf 8 (some .int) (XM G 5 P) 92 [(0, vR 44), (1, vI k), (2, vI w), (3, vI was), (4, vI ((forR 0 10 (stP M k) (-1, 999)).1)), (5, vI ((forR 0 10 (stP M k) (-1, 999)).2)), (6, vI 10)] [] N) : AW G RX6 cX6_settleOf 8 (some .int) (XM G 5 P) 22 [(0, vR 44), (1, vI k), (2, vI w), (3, vI was), (4, vI (-1)), (5, vI 999), (6, vI 0)] [] M := by
  have key : ∀ (nn : Nat) (h : Int)  (N : Mem) (b : Int) (f : Int), (0 : Int) ≤ h → h ≤ 10 → (b, f) = forR 0 h (stP M k) (-1, 999) → (∃ v, (0 ≤ v ∧ v ≤ 9) ∧ Fq (upm M 50 (3 * k + 2) v) N) → 10 - h < nn → AW G RX6 cX6_settleOf 8 (some .int) (XM G 5 P) 22 [(0, vR 44), (1, vI k), (2, vI w), (3, vI was), (4, vI b), (5, vI f), (6, vI h)] [] N := by
    intro nn
    induction nn with
    | zero => intro h N b f hk0 hk1 e_t hF hn; omega
    | succ nn ih =>
      intro h N b f hk0 hk1 e_t hF hn
      obtain ⟨v, hv, hF1⟩ := id hF
      have hL : LI N := (hB.1.house (k := k) hv).Fq hF1
      have hp := hL.1.1
      have hp7 : N 44 7 = M 44 7 := hF1.p
      have eF : isFree N k h = isFree M k h := isFree_E hF1 hB.1.1.1.1
      have eM : movesNow (lives (upm N 50 (3 * k + 2) h)) = mvS M k h := mvS_E hF1 hB
      refine a_iload (kX6_settleOf.at 15 rfl) 6 rfl ?_
      refine a_bipush (kX6_settleOf.at 16 rfl) rfl rfl ?_
      refine a_icmpge (tgt := 92) (kX6_settleOf.at 17 rfl) (by decide) (fun h26 => ?_) (fun h26 => ?_)
      · obtain rfl : h = 10 := by omega
        rw [← e_t] at kk
        exact kk N hF
      · refine a_aload_n (kX6_settleOf.at 18 rfl) 0 rfl ?_
        refine a_iload_n (kX6_settleOf.at 19 rfl) 1 rfl ?_
        refine a_iload (kX6_settleOf.at 20 rfl) 6 rfl ?_
        refine AW.callV (as := [vI k, vI h]) (st := []) (kX6_settleOf.at 21 rfl) ml_X6_240 sv_X6_isFree (k := 44) (io_44) rfl rfl ⟨Nat.le_of_ble_eq_true rfl, Nat.le_of_ble_eq_true rfl⟩ ⟨Nat.le_refl _, Nat.le_refl _⟩ rfl rfl (Nat.le_of_ble_eq_true rfl) (c_isFree G N k h hp) (kIE ?_)
        refine a_ifeq (tgt := 86) (kX6_settleOf.at 22 rfl) (by decide) (fun h36 => ?_) (fun h36 => ?_)
        · refine a_iinc (ls' := [(0, vR 44), (1, vI k), (2, vI w), (3, vI was), (4, vI b), (5, vI f), (6, vI (h + 1))]) (kX6_settleOf.at 48 rfl) 6 rfl (by decide) (inr (by omega)) rfl ?_
          refine a_goto (tgt := 22) (kX6_settleOf.at 49 rfl) (by decide) ?_
          exact ih ((h + 1)) (N) (b) (f) (by omega) (by omega) (by rw [forR_succ hk0, ← e_t] <;> (clear ih kk e_t; rw [eF] at h36; first | (unfold stP; rw [if_pos h36]) | (rw [eM] at h65 ⊢; unfold stP; rw [if_neg h36]; first | rw [show (b, f).2 = f from rfl, if_pos (show mvS M k h < f by omega)] | rw [show (b, f).2 = f from rfl, if_neg (show ¬ mvS M k h < f by omega)]))) (by first | exact ⟨h, by omega, hF2.trans (Fr_lives _).q⟩ | exact ⟨v, hv, hF1⟩) (by omega)
        · refine a_aload_n (kX6_settleOf.at 23 rfl) 0 rfl ?_
          refine a_getR (kX6_settleOf.at 24 rfl) fg_X6_25 ir_44_8 ?_
          refine a_iconst (kX6_settleOf.at 25 rfl) rfl ?_
          refine a_iload_n (kX6_settleOf.at 26 rfl) 1 rfl ?_
          refine a_imul (kX6_settleOf.at 27 rfl) (inr (by omega)) ?_
          refine a_iconst (kX6_settleOf.at 28 rfl) rfl ?_
          refine a_iadd (kX6_settleOf.at 29 rfl) (inr (by omega)) ?_
          refine a_iload (kX6_settleOf.at 30 rfl) 6 rfl ?_
          refine a_iast (kX6_settleOf.at 31 rfl) (ia_50) (by omega) ?_
          have hL1 := hL.house (k := k) (v := h) (by omega)
          have hF2 : Fq (upm M 50 (3 * k + 2) h) (upm N 50 (3 * k + 2) h) := hF1.set
          refine a_aload_n (kX6_settleOf.at 32 rfl) 0 rfl ?_
          refine AW.callV (as := []) (st := []) (kX6_settleOf.at 33 rfl) ml_X6_200 sv_X6_lives (k := 44) (io_44) rfl rfl ⟨Nat.le_of_ble_eq_true rfl, Nat.le_of_ble_eq_true rfl⟩ ⟨Nat.le_refl _, Nat.le_refl _⟩ rfl rfl (Nat.le_of_ble_eq_true rfl) (c_lives G (upm N 50 ((3 * k) + 2) h) hL1.1 hL1.2) (kVE ?_)
          have hg := lives_RG hL1.1
          refine a_aload_n (kX6_settleOf.at 34 rfl) 0 rfl ?_
          refine AW.callV (as := []) (st := []) (kX6_settleOf.at 35 rfl) ml_X6_228 sv_X6_movesNow (k := 44) (io_44) rfl rfl ⟨Nat.le_of_ble_eq_true rfl, Nat.le_of_ble_eq_true rfl⟩ ⟨Nat.le_refl _, Nat.le_refl _⟩ rfl rfl (Nat.le_of_ble_eq_true rfl) (c_movesNow G (lives (upm N 50 ((3 * k) + 2) h)) hg) (kIE ?_)
          refine a_istore (ls' := [(0, vR 44), (1, vI k), (2, vI w), (3, vI was), (4, vI b), (5, vI f), (6, vI h), (7, vI (movesNow (lives (upm N 50 ((3 * k) + 2) h))))]) (kX6_settleOf.at 36 rfl) (by decide) rfl ?_
          refine a_iload (kX6_settleOf.at 37 rfl) 7 rfl ?_
          refine a_iload (kX6_settleOf.at 38 rfl) 5 rfl ?_
          refine a_icmpge (tgt := 73) (kX6_settleOf.at 39 rfl) (by decide) (fun h65 => ?_) (fun h65 => ?_)
          · refine a_iload (kX6_settleOf.at 42 rfl) 4 rfl ?_
            refine a_istore (ls' := [(0, vR 44), (1, vI k), (2, vI w), (3, vI was), (4, vI b), (5, vI f), (6, vI h), (7, vI (movesNow (lives (upm N 50 ((3 * k) + 2) h))))]) (kX6_settleOf.at 43 rfl) (by decide) rfl ?_
            refine a_iload (kX6_settleOf.at 44 rfl) 7 rfl ?_
            refine a_iload (kX6_settleOf.at 45 rfl) 5 rfl ?_
            refine AW.callS (as := [vI (movesNow (lives (upm N 50 ((3 * k) + 2) h))), vI f]) (st := []) (kX6_settleOf.at 46 rfl) ml_X6_243 ss_X6_lesser ⟨Nat.le_of_ble_eq_true rfl, Nat.le_of_ble_eq_true rfl⟩ ⟨Nat.le_refl _, Nat.le_refl _⟩ rfl rfl (Nat.le_of_ble_eq_true rfl) (c_lesser G (lives (upm N 50 ((3 * k) + 2) h)) (movesNow (lives (upm N 50 ((3 * k) + 2) h))) f) (kIE ?_)
            refine a_istore (ls' := [(0, vR 44), (1, vI k), (2, vI w), (3, vI was), (4, vI b), (5, vI (lesser (movesNow (lives (upm N 50 ((3 * k) + 2) h))) f)), (6, vI h), (7, vI (movesNow (lives (upm N 50 ((3 * k) + 2) h))))]) (kX6_settleOf.at 47 rfl) (by decide) rfl ?_
            refine a_iinc (ls' := [(0, vR 44), (1, vI k), (2, vI w), (3, vI was), (4, vI b), (5, vI (lesser (movesNow (lives (upm N 50 ((3 * k) + 2) h))) f)), (6, vI (h + 1)), (7, vI (movesNow (lives (upm N 50 ((3 * k) + 2) h))))]) (kX6_settleOf.at 48 rfl) 6 rfl (by decide) (inr (by omega)) rfl ?_
            refine a_goto (tgt := 22) (kX6_settleOf.at 49 rfl) (by decide) ?_
            refine AW.loc (ls' := [(0, vR 44), (1, vI k), (2, vI w), (3, vI was), (4, vI b), (5, vI (lesser (movesNow (lives (upm N 50 ((3 * k) + 2) h))) f)), (6, vI (h + 1))]) [0, 1, 2, 3, 4, 5, 6] rfl ?_
            exact ih ((h + 1)) ((lives (upm N 50 ((3 * k) + 2) h))) (b) ((lesser (movesNow (lives (upm N 50 ((3 * k) + 2) h))) f)) (by omega) (by omega) (by rw [forR_succ hk0, ← e_t] <;> (clear ih kk e_t; rw [eF] at h36; first | (unfold stP; rw [if_pos h36]) | (rw [eM] at h65 ⊢; unfold stP; rw [if_neg h36]; first | rw [show (b, f).2 = f from rfl, if_pos (show mvS M k h < f by omega)] | rw [show (b, f).2 = f from rfl, if_neg (show ¬ mvS M k h < f by omega)]))) (by first | exact ⟨h, by omega, hF2.trans (Fr_lives _).q⟩ | exact ⟨v, hv, hF1⟩) (by omega)
          · refine a_iload (kX6_settleOf.at 40 rfl) 6 rfl ?_
            refine a_goto (tgt := 75) (kX6_settleOf.at 41 rfl) (by decide) ?_
            refine a_istore (ls' := [(0, vR 44), (1, vI k), (2, vI w), (3, vI was), (4, vI h), (5, vI f), (6, vI h), (7, vI (movesNow (lives (upm N 50 ((3 * k) + 2) h))))]) (kX6_settleOf.at 43 rfl) (by decide) rfl ?_
            refine a_iload (kX6_settleOf.at 44 rfl) 7 rfl ?_
            refine a_iload (kX6_settleOf.at 45 rfl) 5 rfl ?_
            refine AW.callS (as := [vI (movesNow (lives (upm N 50 ((3 * k) + 2) h))), vI f]) (st := []) (kX6_settleOf.at 46 rfl) ml_X6_243 ss_X6_lesser ⟨Nat.le_of_ble_eq_true rfl, Nat.le_of_ble_eq_true rfl⟩ ⟨Nat.le_refl _, Nat.le_refl _⟩ rfl rfl (Nat.le_of_ble_eq_true rfl) (c_lesser G (lives (upm N 50 ((3 * k) + 2) h)) (movesNow (lives (upm N 50 ((3 * k) + 2) h))) f) (kIE ?_)
            refine a_istore (ls' := [(0, vR 44), (1, vI k), (2, vI w), (3, vI was), (4, vI h), (5, vI (lesser (movesNow (lives (upm N 50 ((3 * k) + 2) h))) f)), (6, vI h), (7, vI (movesNow (lives (upm N 50 ((3 * k) + 2) h))))]) (kX6_settleOf.at 47 rfl) (by decide) rfl ?_
            refine a_iinc (ls' := [(0, vR 44), (1, vI k), (2, vI w), (3, vI was), (4, vI h), (5, vI (lesser (movesNow (lives (upm N 50 ((3 * k) + 2) h))) f)), (6, vI (h + 1)), (7, vI (movesNow (lives (upm N 50 ((3 * k) + 2) h))))]) (kX6_settleOf.at 48 rfl) 6 rfl (by decide) (inr (by omega)) rfl ?_
            refine a_goto (tgt := 22) (kX6_settleOf.at 49 rfl) (by decide) ?_
            refine AW.loc (ls' := [(0, vR 44), (1, vI k), (2, vI w), (3, vI was), (4, vI h), (5, vI (lesser (movesNow (lives (upm N 50 ((3 * k) + 2) h))) f)), (6, vI (h + 1))]) [0, 1, 2, 3, 4, 5, 6] rfl ?_
            exact ih ((h + 1)) ((lives (upm N 50 ((3 * k) + 2) h))) (h) ((lesser (movesNow (lives (upm N 50 ((3 * k) + 2) h))) f)) (by omega) (by omega) (by rw [forR_succ hk0, ← e_t] <;> (clear ih kk e_t; rw [eF] at h36; first | (unfold stP; rw [if_pos h36]) | (rw [eM] at h65 ⊢; unfold stP; rw [if_neg h36]; first | rw [show (b, f).2 = f from rfl, if_pos (show mvS M k h < f by omega)] | rw [show (b, f).2 = f from rfl, if_neg (show ¬ mvS M k h < f by omega)]))) (by first | exact ⟨h, by omega, hF2.trans (Fr_lives _).q⟩ | exact ⟨v, hv, hF1⟩) (by omega)
  exact key ((10) - (0) + 1 : Int).toNat (0) M (-1) 999 (Int.le_refl _) hlohi (forR_nil (Int.le_refl _)).symm (⟨M 50 (3 * k + 2), hB.1.1.2 k hk.1 hk.2, by rw [upm_self]; exact Fq.refl M⟩) (by omega)
theorem c_settleOf (G : GT) (M : Mem) (k w : Int) (hB : BI M) (hk : 0 ≤ k ∧ k < M 44 7) : AM G yX6_settleOf cX6_settleOf 8 (some .int) 5 M [vR 44, vI k, vI w] (pI fun r M' => r = settleS M k w ∧ Fq M M') := by
  refine AM.mk (own := RX6) rfl sv_X6_settleOf.1.2.2.2.2.2 (Nat.le_of_ble_eq_true rfl) rfl ?_
  have hp := hB.1.1.1
  refine a_aload_n (kX6_settleOf.at 0 rfl) 0 rfl ?_
  refine a_getR (kX6_settleOf.at 1 rfl) fg_X6_25 ir_44_8 ?_
  refine a_iconst (kX6_settleOf.at 2 rfl) rfl ?_
  refine a_iload_n (kX6_settleOf.at 3 rfl) 1 rfl ?_
  refine a_imul (kX6_settleOf.at 4 rfl) (inr (by omega)) ?_
  refine a_iconst (kX6_settleOf.at 5 rfl) rfl ?_
  refine a_iadd (kX6_settleOf.at 6 rfl) (inr (by omega)) ?_
  refine a_iald (x := M 50 ((3 * k) + 2)) (kX6_settleOf.at 7 rfl) (ia_50) (by omega) (rfl) ?_
  refine a_istore_n (ls' := [(0, vR 44), (1, vI k), (2, vI w), (3, vI (M 50 ((3 * k) + 2)))]) (kX6_settleOf.at 8 rfl) (by decide) rfl ?_
  refine a_iconst (kX6_settleOf.at 9 rfl) rfl ?_
  refine a_istore (ls' := [(0, vR 44), (1, vI k), (2, vI w), (3, vI (M 50 ((3 * k) + 2))), (4, vI (-1))]) (kX6_settleOf.at 10 rfl) (by decide) rfl ?_
  refine a_sipush (kX6_settleOf.at 11 rfl) rfl rfl ?_
  refine a_istore (ls' := [(0, vR 44), (1, vI k), (2, vI w), (3, vI (M 50 ((3 * k) + 2))), (4, vI (-1)), (5, vI 999)]) (kX6_settleOf.at 12 rfl) (by decide) rfl ?_
  refine a_iconst (kX6_settleOf.at 13 rfl) rfl ?_
  refine a_istore (ls' := [(0, vR 44), (1, vI k), (2, vI w), (3, vI (M 50 ((3 * k) + 2))), (4, vI (-1)), (5, vI 999), (6, vI 0)]) (kX6_settleOf.at 14 rfl) (by decide) rfl ?_
  refine l_settleOf G M k w _ _ hB hk (by omega) ?_
  intro N hF
  show AW _ _ _ _ _ _ 92 [(0, vR 44), (1, vI k), (2, vI w), (3, vI (M 50 ((3 * k) + 2))), (4, vI ((forR 0 10 (stP M k) (-1, 999)).1)), (5, vI ((forR 0 10 (stP M k) (-1, 999)).2)), (6, vI 10)] [] N
  refine a_aload_n (kX6_settleOf.at 50 rfl) 0 rfl ?_
  refine a_getR (kX6_settleOf.at 51 rfl) fg_X6_25 ir_44_8 ?_
  refine a_iconst (kX6_settleOf.at 52 rfl) rfl ?_
  refine a_iload_n (kX6_settleOf.at 53 rfl) 1 rfl ?_
  refine a_imul (kX6_settleOf.at 54 rfl) (inr (by omega)) ?_
  refine a_iconst (kX6_settleOf.at 55 rfl) rfl ?_
  refine a_iadd (kX6_settleOf.at 56 rfl) (inr (by omega)) ?_
  refine a_iload_n (kX6_settleOf.at 57 rfl) 3 rfl ?_
  refine a_iast (kX6_settleOf.at 58 rfl) (ia_50) (by omega) ?_
  refine a_iload_n (kX6_settleOf.at 59 rfl) 2 rfl ?_
  refine a_ifne (tgt := 112) (kX6_settleOf.at 60 rfl) (by decide) (fun h104 => ?_) (fun h104 => ?_)
  · refine a_iload (kX6_settleOf.at 63 rfl) 5 rfl ?_
    exact a_iret (kX6_settleOf.at 64 rfl) (by obtain ⟨v, hv, hF1⟩ := hF; exact ⟨by unfold settleS; first | rw [if_pos (by omega)] | rw [if_neg (by omega)], hF1.back⟩)
  · refine a_iload (kX6_settleOf.at 61 rfl) 4 rfl ?_
    refine a_goto (tgt := 114) (kX6_settleOf.at 62 rfl) (by decide) ?_
    exact a_iret (kX6_settleOf.at 64 rfl) (by obtain ⟨v, hv, hF1⟩ := hF; exact ⟨by unfold settleS; first | rw [if_pos (by omega)] | rw [if_neg (by omega)], hF1.back⟩)
noncomputable def mvT (M : Mem) (k v : Int) : Int := movesNow (lives (upm (upm (upm M 44 12 0) 44 14 k) 44 13 v))
noncomputable def thP (M : Mem) (k : Int) : Int → Int × Int → Int × Int := fun v z => (if mvT M k v < z.2 then v else z.1, lesser (mvT M k v) z.2)
noncomputable def thinkS (M : Mem) (k w : Int) : Int := if w = 0 then (forR 0 3 (thP M k) (-1, 999)).1 else (forR 0 3 (thP M k) (-1, 999)).2
/-- scratch differs, and the odd event is this -/
noncomputable def Fo (M : Mem) (q k : Int) (N : Mem) : Prop := Fq (upm M 44 12 q) N ∧ N 44 14 = k
theorem thE {M N : Mem} {k v : Int} (h : Fo M 0 k N) (hB : BI M) : Fo M 0 k (lives (upm N 44 13 v)) ∧ LI (upm N 44 13 v) ∧ movesNow (lives (upm N 44 13 v)) = mvT M k v := by
  have h1 : Fq (upm M 44 12 0) (upm N 44 13 v) := h.1.up (by omega)
  have h2 : LI (upm N 44 13 v) := (hB.1.fld (j := 12) (by omega)).Fq h1
  refine ⟨⟨h1.trans (Fr_lives _).q, ((Fr_lives (upm N 44 13 v)) 44 14 (by omega) (by omega)).trans h.2⟩, h2, ?_⟩
  have h3 : Fq (upm (upm (upm M 44 12 0) 44 14 k) 44 13 v) (upm N 44 13 v) := by
    have h4 : Fq (upm (upm M 44 12 0) 44 14 k) N := fun c j a b d e => (h.1 c j a b d e).trans (by
      by_cases e1 : c = 44
      · subst e1; rw [rd_ni (i := 14) (by omega)]
      · rw [rd_ne (k := 44) e1, rd_ne (k := 44) e1, rd_ne (k := 44) e1])
    exact h4.upboth 44 13 v
  exact movesNow_E (lives_E (h3.inE' rfl (Or.inr h.2)) hB.1.1.1)
set_option maxHeartbeats 4000000 in
set_option maxRecDepth 100000 in
theorem l_thinkOf (G : GT) (M : Mem) (k w : Int) (P : Option AV → Mem → Prop) (hB : BI M) (M0 : Mem) (hM0 : Fo M 0 k M0) (hlohi : (0 : Int) ≤ 3) (kk : ∀ (N : Mem), (Fo M 0 k N) → AW G RX6 cX6_thinkOf 7 (some .int) (XM G 5 P) 71 [(0, vR 44), (1, vI k), (2, vI w), (3, vI ((forR 0 3 (thP M k) (-1, 999)).1)), (4, vI ((forR 0 3 (thP M k) (-1, 999)).2)), (5, vI 3)] [] N) : AW G RX6 cX6_thinkOf 7 (some .int) (XM G 5 P) 20 [(0, vR 44), (1, vI k), (2, vI w), (3, vI (-1)), (4, vI 999), (5, vI 0)] [] M0 := by
  have key : ∀ (nn : Nat) (v : Int)  (N : Mem) (b : Int) (f : Int), (0 : Int) ≤ v → v ≤ 3 → (b, f) = forR 0 v (thP M k) (-1, 999) → (Fo M 0 k N) → 3 - v < nn → AW G RX6 cX6_thinkOf 7 (some .int) (XM G 5 P) 20 [(0, vR 44), (1, vI k), (2, vI w), (3, vI b), (4, vI f), (5, vI v)] [] N := by
    intro nn
    induction nn with
    | zero => intro v N b f hk0 hk1 e_t hF hn; omega
    | succ nn ih =>
      intro v N b f hk0 hk1 e_t hF hn
      have hE := thE (v := v) hF hB
      refine a_iload (kX6_thinkOf.at 12 rfl) 5 rfl ?_
      refine a_iconst (kX6_thinkOf.at 13 rfl) rfl ?_
      refine a_icmpge (tgt := 71) (kX6_thinkOf.at 14 rfl) (by decide) (fun h23 => ?_) (fun h23 => ?_)
      · obtain rfl : v = 3 := by omega
        rw [← e_t] at kk
        exact kk N hF
      · refine a_aload_n (kX6_thinkOf.at 15 rfl) 0 rfl ?_
        refine a_iload (kX6_thinkOf.at 16 rfl) 5 rfl ?_
        refine a_putI (j := 13) (kX6_thinkOf.at 17 rfl) fp_X6_184 (ii_44_13) rfl ?_
        refine a_aload_n (kX6_thinkOf.at 18 rfl) 0 rfl ?_
        refine AW.callV (as := []) (st := []) (kX6_thinkOf.at 19 rfl) ml_X6_200 sv_X6_lives (k := 44) (io_44) rfl rfl ⟨Nat.le_of_ble_eq_true rfl, Nat.le_of_ble_eq_true rfl⟩ ⟨Nat.le_refl _, Nat.le_refl _⟩ rfl rfl (Nat.le_of_ble_eq_true rfl) (c_lives G (upm N 44 13 v) hE.2.1.1 hE.2.1.2) (kVE ?_)
        have hg := lives_RG hE.2.1.1
        refine a_aload_n (kX6_thinkOf.at 20 rfl) 0 rfl ?_
        refine AW.callV (as := []) (st := []) (kX6_thinkOf.at 21 rfl) ml_X6_228 sv_X6_movesNow (k := 44) (io_44) rfl rfl ⟨Nat.le_of_ble_eq_true rfl, Nat.le_of_ble_eq_true rfl⟩ ⟨Nat.le_refl _, Nat.le_refl _⟩ rfl rfl (Nat.le_of_ble_eq_true rfl) (c_movesNow G (lives (upm N 44 13 v)) hg) (kIE ?_)
        refine a_istore (ls' := [(0, vR 44), (1, vI k), (2, vI w), (3, vI b), (4, vI f), (5, vI v), (6, vI (movesNow (lives (upm N 44 13 v))))]) (kX6_thinkOf.at 22 rfl) (by decide) rfl ?_
        refine a_iload (kX6_thinkOf.at 23 rfl) 6 rfl ?_
        refine a_iload (kX6_thinkOf.at 24 rfl) 4 rfl ?_
        refine a_icmpge (tgt := 54) (kX6_thinkOf.at 25 rfl) (by decide) (fun h46 => ?_) (fun h46 => ?_)
        · refine a_iload_n (kX6_thinkOf.at 28 rfl) 3 rfl ?_
          refine a_istore_n (ls' := [(0, vR 44), (1, vI k), (2, vI w), (3, vI b), (4, vI f), (5, vI v), (6, vI (movesNow (lives (upm N 44 13 v))))]) (kX6_thinkOf.at 29 rfl) (by decide) rfl ?_
          refine a_iload (kX6_thinkOf.at 30 rfl) 6 rfl ?_
          refine a_iload (kX6_thinkOf.at 31 rfl) 4 rfl ?_
          refine AW.callS (as := [vI (movesNow (lives (upm N 44 13 v))), vI f]) (st := []) (kX6_thinkOf.at 32 rfl) ml_X6_243 ss_X6_lesser ⟨Nat.le_of_ble_eq_true rfl, Nat.le_of_ble_eq_true rfl⟩ ⟨Nat.le_refl _, Nat.le_refl _⟩ rfl rfl (Nat.le_of_ble_eq_true rfl) (c_lesser G (lives (upm N 44 13 v)) (movesNow (lives (upm N 44 13 v))) f) (kIE ?_)
          refine a_istore (ls' := [(0, vR 44), (1, vI k), (2, vI w), (3, vI b), (4, vI (lesser (movesNow (lives (upm N 44 13 v))) f)), (5, vI v), (6, vI (movesNow (lives (upm N 44 13 v))))]) (kX6_thinkOf.at 33 rfl) (by decide) rfl ?_
          refine a_iinc (ls' := [(0, vR 44), (1, vI k), (2, vI w), (3, vI b), (4, vI (lesser (movesNow (lives (upm N 44 13 v))) f)), (5, vI (v + 1)), (6, vI (movesNow (lives (upm N 44 13 v))))]) (kX6_thinkOf.at 34 rfl) 5 rfl (by decide) (inr (by omega)) rfl ?_
          refine a_goto (tgt := 20) (kX6_thinkOf.at 35 rfl) (by decide) ?_
          refine AW.loc (ls' := [(0, vR 44), (1, vI k), (2, vI w), (3, vI b), (4, vI (lesser (movesNow (lives (upm N 44 13 v))) f)), (5, vI (v + 1))]) [0, 1, 2, 3, 4, 5] rfl ?_
          exact ih ((v + 1)) ((lives (upm N 44 13 v))) (b) ((lesser (movesNow (lives (upm N 44 13 v))) f)) (by omega) (by omega) (by rw [forR_succ hk0, ← e_t] <;> (clear ih kk e_t; rw [hE.2.2] at h46 ⊢; unfold thP; first | rw [show (b, f).2 = f from rfl, if_pos (show mvT M k v < f by omega)] | rw [show (b, f).2 = f from rfl, if_neg (show ¬ mvT M k v < f by omega)])) (hE.1) (by omega)
        · refine a_iload (kX6_thinkOf.at 26 rfl) 5 rfl ?_
          refine a_goto (tgt := 55) (kX6_thinkOf.at 27 rfl) (by decide) ?_
          refine a_istore_n (ls' := [(0, vR 44), (1, vI k), (2, vI w), (3, vI v), (4, vI f), (5, vI v), (6, vI (movesNow (lives (upm N 44 13 v))))]) (kX6_thinkOf.at 29 rfl) (by decide) rfl ?_
          refine a_iload (kX6_thinkOf.at 30 rfl) 6 rfl ?_
          refine a_iload (kX6_thinkOf.at 31 rfl) 4 rfl ?_
          refine AW.callS (as := [vI (movesNow (lives (upm N 44 13 v))), vI f]) (st := []) (kX6_thinkOf.at 32 rfl) ml_X6_243 ss_X6_lesser ⟨Nat.le_of_ble_eq_true rfl, Nat.le_of_ble_eq_true rfl⟩ ⟨Nat.le_refl _, Nat.le_refl _⟩ rfl rfl (Nat.le_of_ble_eq_true rfl) (c_lesser G (lives (upm N 44 13 v)) (movesNow (lives (upm N 44 13 v))) f) (kIE ?_)
          refine a_istore (ls' := [(0, vR 44), (1, vI k), (2, vI w), (3, vI v), (4, vI (lesser (movesNow (lives (upm N 44 13 v))) f)), (5, vI v), (6, vI (movesNow (lives (upm N 44 13 v))))]) (kX6_thinkOf.at 33 rfl) (by decide) rfl ?_
          refine a_iinc (ls' := [(0, vR 44), (1, vI k), (2, vI w), (3, vI v), (4, vI (lesser (movesNow (lives (upm N 44 13 v))) f)), (5, vI (v + 1)), (6, vI (movesNow (lives (upm N 44 13 v))))]) (kX6_thinkOf.at 34 rfl) 5 rfl (by decide) (inr (by omega)) rfl ?_
          refine a_goto (tgt := 20) (kX6_thinkOf.at 35 rfl) (by decide) ?_
          refine AW.loc (ls' := [(0, vR 44), (1, vI k), (2, vI w), (3, vI v), (4, vI (lesser (movesNow (lives (upm N 44 13 v))) f)), (5, vI (v + 1))]) [0, 1, 2, 3, 4, 5] rfl ?_
          exact ih ((v + 1)) ((lives (upm N 44 13 v))) (v) ((lesser (movesNow (lives (upm N 44 13 v))) f)) (by omega) (by omega) (by rw [forR_succ hk0, ← e_t] <;> (clear ih kk e_t; rw [hE.2.2] at h46 ⊢; unfold thP; first | rw [show (b, f).2 = f from rfl, if_pos (show mvT M k v < f by omega)] | rw [show (b, f).2 = f from rfl, if_neg (show ¬ mvT M k v < f by omega)])) (hE.1) (by omega)
  exact key ((3) - (0) + 1 : Int).toNat (0) M0 (-1) 999 (Int.le_refl _) hlohi (forR_nil (Int.le_refl _)).symm (hM0) (by omega)
theorem c_thinkOf (G : GT) (M : Mem) (k w : Int) (hB : BI M) : AM G yX6_thinkOf cX6_thinkOf 7 (some .int) 5 M [vR 44, vI k, vI w] (pI fun r M' => r = thinkS M k w ∧ Fq M M') := by
  refine AM.mk (own := RX6) rfl sv_X6_thinkOf.1.2.2.2.2.2 (Nat.le_of_ble_eq_true rfl) rfl ?_
  have hM0 : Fo M 0 k (upm (upm M 44 12 0) 44 14 k) := ⟨(Fq.refl _).up (by omega), rfl⟩
  refine a_iconst (kX6_thinkOf.at 0 rfl) rfl ?_
  refine a_istore_n (ls' := [(0, vR 44), (1, vI k), (2, vI w), (3, vI (-1))]) (kX6_thinkOf.at 1 rfl) (by decide) rfl ?_
  refine a_sipush (kX6_thinkOf.at 2 rfl) rfl rfl ?_
  refine a_istore (ls' := [(0, vR 44), (1, vI k), (2, vI w), (3, vI (-1)), (4, vI 999)]) (kX6_thinkOf.at 3 rfl) (by decide) rfl ?_
  refine a_aload_n (kX6_thinkOf.at 4 rfl) 0 rfl ?_
  refine a_iconst (kX6_thinkOf.at 5 rfl) rfl ?_
  refine a_putI (j := 12) (kX6_thinkOf.at 6 rfl) fp_X6_64 (ii_44_12) rfl ?_
  refine a_aload_n (kX6_thinkOf.at 7 rfl) 0 rfl ?_
  refine a_iload_n (kX6_thinkOf.at 8 rfl) 1 rfl ?_
  refine a_putI (j := 14) (kX6_thinkOf.at 9 rfl) fp_X6_187 (ii_44_14) rfl ?_
  refine a_iconst (kX6_thinkOf.at 10 rfl) rfl ?_
  refine a_istore (ls' := [(0, vR 44), (1, vI k), (2, vI w), (3, vI (-1)), (4, vI 999), (5, vI 0)]) (kX6_thinkOf.at 11 rfl) (by decide) rfl ?_
  refine l_thinkOf G M k w _ hB _ hM0 (by omega) ?_
  intro N hF
  show AW _ _ _ _ _ _ 71 [(0, vR 44), (1, vI k), (2, vI w), (3, vI ((forR 0 3 (thP M k) (-1, 999)).1)), (4, vI ((forR 0 3 (thP M k) (-1, 999)).2)), (5, vI 3)] [] N
  refine a_aload_n (kX6_thinkOf.at 36 rfl) 0 rfl ?_
  refine a_iconst (kX6_thinkOf.at 37 rfl) rfl ?_
  refine a_putI (j := 12) (kX6_thinkOf.at 38 rfl) fp_X6_64 (ii_44_12) rfl ?_
  refine a_iload_n (kX6_thinkOf.at 39 rfl) 2 rfl ?_
  refine a_ifne (tgt := 84) (kX6_thinkOf.at 40 rfl) (by decide) (fun h77 => ?_) (fun h77 => ?_)
  · refine a_iload (kX6_thinkOf.at 43 rfl) 4 rfl ?_
    exact a_iret (kX6_thinkOf.at 44 rfl) (⟨by unfold thinkS; first | rw [if_pos (by omega)] | rw [if_neg (by omega)], by have := hF.1.back; rw [hB.2.2] at this; exact this⟩)
  · refine a_iload_n (kX6_thinkOf.at 41 rfl) 3 rfl ?_
    refine a_goto (tgt := 86) (kX6_thinkOf.at 42 rfl) (by decide) ?_
    exact a_iret (kX6_thinkOf.at 44 rfl) (⟨by unfold thinkS; first | rw [if_pos (by omega)] | rw [if_neg (by omega)], by have := hF.1.back; rw [hB.2.2] at this; exact this⟩)
noncomputable def mvR (M : Mem) (q : Int) : Int := movesNow (lives (upm (upm M 44 13 3) 44 12 q))
noncomputable def rsP (M : Mem) : Int → Int × Int → Int × Int := fun q z => (if mvR M q < z.2 then q else z.1, lesser (mvR M q) z.2)
noncomputable def restS (M : Mem) (w : Int) : Int := if w = 0 then (forR 0 16 (rsP M) (-1, 999)).1 else (forR 0 16 (rsP M) (-1, 999)).2
/-- scratch differs; the odd event is a holiday, in some quarter -/
noncomputable def Fhd (M N : Mem) : Prop := (∃ q, Fq (upm M 44 12 q) N) ∧ N 44 13 = 3
theorem rsE {M N : Mem} {q : Int} (h : Fhd M N) (hB : BI M) : Fhd M (lives (upm N 44 12 q)) ∧ LI (upm N 44 12 q) ∧ movesNow (lives (upm N 44 12 q)) = mvR M q := by
  obtain ⟨⟨q0, h0⟩, h13⟩ := h
  have h1 : Fq (upm M 44 12 q) (upm N 44 12 q) := h0.set
  have h2 : LI (upm N 44 12 q) := (hB.1.fld (j := 12) (by omega)).Fq h1
  have h5 : Fq (upm M 44 12 q) (lives (upm N 44 12 q)) := h1.trans (Fr_lives _).q
  refine ⟨⟨⟨q, h5⟩, ((Fr_lives (upm N 44 12 q)) 44 13 (by omega) (by omega)).trans h13⟩, h2, ?_⟩
  have h3 : Fq (upm (upm M 44 13 3) 44 12 q) (upm N 44 12 q) := fun c j a b d e => (h1 c j a b d e).trans (by
    by_cases e1 : c = 44
    · subst e1
      by_cases e2 : j = 12
      · subst e2; rw [rd_eq, rd_eq]
      · rw [rd_ni e2, rd_ni e2, rd_ni (i := 13) (by omega)]
    · rw [rd_ne (k := 44) e1, rd_ne (k := 44) e1, rd_ne (k := 44) e1])
  exact movesNow_E (lives_E (h3.inE' h13 (Or.inl rfl)) hB.1.1.1)
set_option maxHeartbeats 4000000 in
set_option maxRecDepth 100000 in
theorem l_restBy (G : GT) (M : Mem) (w : Int) (P : Option AV → Mem → Prop) (hB : BI M) (M0 : Mem) (hM0 : Fhd M M0) (hlohi : (0 : Int) ≤ 16) (kk : ∀ (N : Mem), (Fhd M N) → AW G RX6 cX6_restBy 6 (some .int) (XM G 5 P) 63 [(0, vR 44), (1, vI w), (2, vI ((forR 0 16 (rsP M) (-1, 999)).1)), (3, vI ((forR 0 16 (rsP M) (-1, 999)).2)), (4, vI 16)] [] N) : AW G RX6 cX6_restBy 6 (some .int) (XM G 5 P) 14 [(0, vR 44), (1, vI w), (2, vI (-1)), (3, vI 999), (4, vI 0)] [] M0 := by
  have key : ∀ (nn : Nat) (q : Int)  (N : Mem) (b : Int) (f : Int), (0 : Int) ≤ q → q ≤ 16 → (b, f) = forR 0 q (rsP M) (-1, 999) → (Fhd M N) → 16 - q < nn → AW G RX6 cX6_restBy 6 (some .int) (XM G 5 P) 14 [(0, vR 44), (1, vI w), (2, vI b), (3, vI f), (4, vI q)] [] N := by
    intro nn
    induction nn with
    | zero => intro q N b f hk0 hk1 e_t hF hn; omega
    | succ nn ih =>
      intro q N b f hk0 hk1 e_t hF hn
      have hE := rsE (q := q) hF hB
      refine a_iload (kX6_restBy.at 9 rfl) 4 rfl ?_
      refine a_bipush (kX6_restBy.at 10 rfl) rfl rfl ?_
      refine a_icmpge (tgt := 63) (kX6_restBy.at 11 rfl) (by decide) (fun h18 => ?_) (fun h18 => ?_)
      · obtain rfl : q = 16 := by omega
        rw [← e_t] at kk
        exact kk N hF
      · refine a_aload_n (kX6_restBy.at 12 rfl) 0 rfl ?_
        refine a_iload (kX6_restBy.at 13 rfl) 4 rfl ?_
        refine a_putI (j := 12) (kX6_restBy.at 14 rfl) fp_X6_64 (ii_44_12) rfl ?_
        refine a_aload_n (kX6_restBy.at 15 rfl) 0 rfl ?_
        refine AW.callV (as := []) (st := []) (kX6_restBy.at 16 rfl) ml_X6_200 sv_X6_lives (k := 44) (io_44) rfl rfl ⟨Nat.le_of_ble_eq_true rfl, Nat.le_of_ble_eq_true rfl⟩ ⟨Nat.le_refl _, Nat.le_refl _⟩ rfl rfl (Nat.le_of_ble_eq_true rfl) (c_lives G (upm N 44 12 q) hE.2.1.1 hE.2.1.2) (kVE ?_)
        have hg := lives_RG hE.2.1.1
        refine a_aload_n (kX6_restBy.at 17 rfl) 0 rfl ?_
        refine AW.callV (as := []) (st := []) (kX6_restBy.at 18 rfl) ml_X6_228 sv_X6_movesNow (k := 44) (io_44) rfl rfl ⟨Nat.le_of_ble_eq_true rfl, Nat.le_of_ble_eq_true rfl⟩ ⟨Nat.le_refl _, Nat.le_refl _⟩ rfl rfl (Nat.le_of_ble_eq_true rfl) (c_movesNow G (lives (upm N 44 12 q)) hg) (kIE ?_)
        refine a_istore (ls' := [(0, vR 44), (1, vI w), (2, vI b), (3, vI f), (4, vI q), (5, vI (movesNow (lives (upm N 44 12 q))))]) (kX6_restBy.at 19 rfl) (by decide) rfl ?_
        refine a_iload (kX6_restBy.at 20 rfl) 5 rfl ?_
        refine a_iload_n (kX6_restBy.at 21 rfl) 3 rfl ?_
        refine a_icmpge (tgt := 48) (kX6_restBy.at 22 rfl) (by decide) (fun h40 => ?_) (fun h40 => ?_)
        · refine a_iload_n (kX6_restBy.at 25 rfl) 2 rfl ?_
          refine a_istore_n (ls' := [(0, vR 44), (1, vI w), (2, vI b), (3, vI f), (4, vI q), (5, vI (movesNow (lives (upm N 44 12 q))))]) (kX6_restBy.at 26 rfl) (by decide) rfl ?_
          refine a_iload (kX6_restBy.at 27 rfl) 5 rfl ?_
          refine a_iload_n (kX6_restBy.at 28 rfl) 3 rfl ?_
          refine AW.callS (as := [vI (movesNow (lives (upm N 44 12 q))), vI f]) (st := []) (kX6_restBy.at 29 rfl) ml_X6_243 ss_X6_lesser ⟨Nat.le_of_ble_eq_true rfl, Nat.le_of_ble_eq_true rfl⟩ ⟨Nat.le_refl _, Nat.le_refl _⟩ rfl rfl (Nat.le_of_ble_eq_true rfl) (c_lesser G (lives (upm N 44 12 q)) (movesNow (lives (upm N 44 12 q))) f) (kIE ?_)
          refine a_istore_n (ls' := [(0, vR 44), (1, vI w), (2, vI b), (3, vI (lesser (movesNow (lives (upm N 44 12 q))) f)), (4, vI q), (5, vI (movesNow (lives (upm N 44 12 q))))]) (kX6_restBy.at 30 rfl) (by decide) rfl ?_
          refine a_iinc (ls' := [(0, vR 44), (1, vI w), (2, vI b), (3, vI (lesser (movesNow (lives (upm N 44 12 q))) f)), (4, vI (q + 1)), (5, vI (movesNow (lives (upm N 44 12 q))))]) (kX6_restBy.at 31 rfl) 4 rfl (by decide) (inr (by omega)) rfl ?_
          refine a_goto (tgt := 14) (kX6_restBy.at 32 rfl) (by decide) ?_
          refine AW.loc (ls' := [(0, vR 44), (1, vI w), (2, vI b), (3, vI (lesser (movesNow (lives (upm N 44 12 q))) f)), (4, vI (q + 1))]) [0, 1, 2, 3, 4] rfl ?_
          exact ih ((q + 1)) ((lives (upm N 44 12 q))) (b) ((lesser (movesNow (lives (upm N 44 12 q))) f)) (by omega) (by omega) (by rw [forR_succ hk0, ← e_t] <;> (clear ih kk e_t; rw [hE.2.2] at h40 ⊢; unfold rsP; first | rw [show (b, f).2 = f from rfl, if_pos (show mvR M q < f by omega)] | rw [show (b, f).2 = f from rfl, if_neg (show ¬ mvR M q < f by omega)])) (hE.1) (by omega)
        · refine a_iload (kX6_restBy.at 23 rfl) 4 rfl ?_
          refine a_goto (tgt := 49) (kX6_restBy.at 24 rfl) (by decide) ?_
          refine a_istore_n (ls' := [(0, vR 44), (1, vI w), (2, vI q), (3, vI f), (4, vI q), (5, vI (movesNow (lives (upm N 44 12 q))))]) (kX6_restBy.at 26 rfl) (by decide) rfl ?_
          refine a_iload (kX6_restBy.at 27 rfl) 5 rfl ?_
          refine a_iload_n (kX6_restBy.at 28 rfl) 3 rfl ?_
          refine AW.callS (as := [vI (movesNow (lives (upm N 44 12 q))), vI f]) (st := []) (kX6_restBy.at 29 rfl) ml_X6_243 ss_X6_lesser ⟨Nat.le_of_ble_eq_true rfl, Nat.le_of_ble_eq_true rfl⟩ ⟨Nat.le_refl _, Nat.le_refl _⟩ rfl rfl (Nat.le_of_ble_eq_true rfl) (c_lesser G (lives (upm N 44 12 q)) (movesNow (lives (upm N 44 12 q))) f) (kIE ?_)
          refine a_istore_n (ls' := [(0, vR 44), (1, vI w), (2, vI q), (3, vI (lesser (movesNow (lives (upm N 44 12 q))) f)), (4, vI q), (5, vI (movesNow (lives (upm N 44 12 q))))]) (kX6_restBy.at 30 rfl) (by decide) rfl ?_
          refine a_iinc (ls' := [(0, vR 44), (1, vI w), (2, vI q), (3, vI (lesser (movesNow (lives (upm N 44 12 q))) f)), (4, vI (q + 1)), (5, vI (movesNow (lives (upm N 44 12 q))))]) (kX6_restBy.at 31 rfl) 4 rfl (by decide) (inr (by omega)) rfl ?_
          refine a_goto (tgt := 14) (kX6_restBy.at 32 rfl) (by decide) ?_
          refine AW.loc (ls' := [(0, vR 44), (1, vI w), (2, vI q), (3, vI (lesser (movesNow (lives (upm N 44 12 q))) f)), (4, vI (q + 1))]) [0, 1, 2, 3, 4] rfl ?_
          exact ih ((q + 1)) ((lives (upm N 44 12 q))) (q) ((lesser (movesNow (lives (upm N 44 12 q))) f)) (by omega) (by omega) (by rw [forR_succ hk0, ← e_t] <;> (clear ih kk e_t; rw [hE.2.2] at h40 ⊢; unfold rsP; first | rw [show (b, f).2 = f from rfl, if_pos (show mvR M q < f by omega)] | rw [show (b, f).2 = f from rfl, if_neg (show ¬ mvR M q < f by omega)])) (hE.1) (by omega)
  exact key ((16) - (0) + 1 : Int).toNat (0) M0 (-1) 999 (Int.le_refl _) hlohi (forR_nil (Int.le_refl _)).symm (hM0) (by omega)
theorem c_restBy (G : GT) (M : Mem) (w : Int) (hB : BI M) : AM G yX6_restBy cX6_restBy 6 (some .int) 5 M [vR 44, vI w] (pI fun r M' => r = restS M w ∧ Fq M M') := by
  refine AM.mk (own := RX6) rfl sv_X6_restBy.1.2.2.2.2.2 (Nat.le_of_ble_eq_true rfl) rfl ?_
  have hM0 : Fhd M (upm M 44 13 3) := ⟨⟨-1, by rw [show upm M 44 12 (-1) = M by rw [← hB.2.2]; exact upm_self M 44 12]; exact (Fq.refl _).up (by omega)⟩, rfl⟩
  refine a_iconst (kX6_restBy.at 0 rfl) rfl ?_
  refine a_istore_n (ls' := [(0, vR 44), (1, vI w), (2, vI (-1))]) (kX6_restBy.at 1 rfl) (by decide) rfl ?_
  refine a_sipush (kX6_restBy.at 2 rfl) rfl rfl ?_
  refine a_istore_n (ls' := [(0, vR 44), (1, vI w), (2, vI (-1)), (3, vI 999)]) (kX6_restBy.at 3 rfl) (by decide) rfl ?_
  refine a_aload_n (kX6_restBy.at 4 rfl) 0 rfl ?_
  refine a_iconst (kX6_restBy.at 5 rfl) rfl ?_
  refine a_putI (j := 13) (kX6_restBy.at 6 rfl) fp_X6_184 (ii_44_13) rfl ?_
  refine a_iconst (kX6_restBy.at 7 rfl) rfl ?_
  refine a_istore (ls' := [(0, vR 44), (1, vI w), (2, vI (-1)), (3, vI 999), (4, vI 0)]) (kX6_restBy.at 8 rfl) (by decide) rfl ?_
  refine l_restBy G M w _ hB _ hM0 (by omega) ?_
  intro N hF
  show AW _ _ _ _ _ _ 63 [(0, vR 44), (1, vI w), (2, vI ((forR 0 16 (rsP M) (-1, 999)).1)), (3, vI ((forR 0 16 (rsP M) (-1, 999)).2)), (4, vI 16)] [] N
  refine a_aload_n (kX6_restBy.at 33 rfl) 0 rfl ?_
  refine a_iconst (kX6_restBy.at 34 rfl) rfl ?_
  refine a_putI (j := 12) (kX6_restBy.at 35 rfl) fp_X6_64 (ii_44_12) rfl ?_
  refine a_iload_n (kX6_restBy.at 36 rfl) 1 rfl ?_
  refine a_ifne (tgt := 76) (kX6_restBy.at 37 rfl) (by decide) (fun h69 => ?_) (fun h69 => ?_)
  · refine a_iload_n (kX6_restBy.at 40 rfl) 3 rfl ?_
    exact a_iret (kX6_restBy.at 41 rfl) (⟨by unfold restS; first | rw [if_pos (by omega)] | rw [if_neg (by omega)], by obtain ⟨⟨q, h0⟩, -⟩ := hF; have := h0.back; rw [hB.2.2] at this; exact this⟩)
  · refine a_iload_n (kX6_restBy.at 38 rfl) 2 rfl ?_
    refine a_goto (tgt := 77) (kX6_restBy.at 39 rfl) (by decide) ?_
    exact a_iret (kX6_restBy.at 41 rfl) (⟨by unfold restS; first | rw [if_pos (by omega)] | rw [if_neg (by omega)], by obtain ⟨⟨q, h0⟩, -⟩ := hF; have := h0.back; rw [hB.2.2] at this; exact this⟩)
