/-! ===== the reference: ask ===== -/
noncomputable def akB (hs : Int → Int → Int) (sm q a : Int) : Int → Int → Int := fun b n => if isIn sm a = true ∧ isIn sm b = true ∧ hs a q = hs b q then n + 1 else n + 0
noncomputable def akA (hs : Int → Int → Int) (sm q : Int) : Int → Int → Int := fun a m => greater (forR 0 8 (akB hs sm q a) 0) m
noncomputable def alikeF (hs : Int → Int → Int) (sm q : Int) : Int := forR 0 8 (akA hs sm q) 0
noncomputable def hsM (M : Mem) : Int → Int → Int := fun v q => M 61 (16 * v + q)
set_option maxHeartbeats 4000000 in
set_option maxRecDepth 100000 in
theorem l_alikeB (G : GT) (M : Mem) (sm q m a : Int) (P : Option AV → Mem → Prop) (hq : 0 ≤ q ∧ q ≤ 15) (ha : 0 ≤ a ∧ a ≤ 7) (hlohi : (0 : Int) ≤ 8) (kk : (0 ≤ (forR 0 8 (akB (hsM M) sm q a) 0) ∧ (forR 0 8 (akB (hsM M) sm q a) 0) ≤ 8) → AW G RX6 cX6_alike 7 (some .int) (XM G 1 P) 86 [(0, vR 44), (1, vI sm), (2, vI q), (3, vI m), (4, vI a), (5, vI (forR 0 8 (akB (hsM M) sm q a) 0)), (6, vI 8)] [] M) : AW G RX6 cX6_alike 7 (some .int) (XM G 1 P) 18 [(0, vR 44), (1, vI sm), (2, vI q), (3, vI m), (4, vI a), (5, vI 0), (6, vI 0)] [] M := by
  have key : ∀ (nn : Nat) (b : Int) (n : Int), (0 : Int) ≤ b → b ≤ 8 → n = forR 0 b (akB (hsM M) sm q a) 0 → (0 ≤ n ∧ n ≤ b) → 8 - b < nn → AW G RX6 cX6_alike 7 (some .int) (XM G 1 P) 18 [(0, vR 44), (1, vI sm), (2, vI q), (3, vI m), (4, vI a), (5, vI n), (6, vI b)] [] M := by
    intro nn
    induction nn with
    | zero => intro b n hk0 hk1 e_n hb hn; omega
    | succ nn ih =>
      intro b n hk0 hk1 e_n hb hn
      refine a_iload (kX6_alike.at 11 rfl) 6 rfl ?_
      refine a_bipush (kX6_alike.at 12 rfl) rfl rfl ?_
      refine a_icmpge (tgt := 86) (kX6_alike.at 13 rfl) (by decide) (fun h22 => ?_) (fun h22 => ?_)
      · obtain rfl : b = 8 := by omega
        subst e_n
        exact kk hb
      · refine a_iload (kX6_alike.at 14 rfl) 5 rfl ?_
        refine a_iload_n (kX6_alike.at 15 rfl) 1 rfl ?_
        refine a_iload (kX6_alike.at 16 rfl) 4 rfl ?_
        refine AW.callS (as := [vI sm, vI a]) (st := [vI n]) (kX6_alike.at 17 rfl) ml_X6_177 ss_X6_isIn ⟨Nat.le_of_ble_eq_true rfl, Nat.le_of_ble_eq_true rfl⟩ ⟨Nat.le_refl _, Nat.le_refl _⟩ rfl rfl (Nat.le_of_ble_eq_true rfl) (c_isIn G M sm a) (kIE ?_)
        refine a_ifeqB (tgt := 76) (kX6_alike.at 18 rfl) (by decide) (fun h33 => ?_) (fun h33 => ?_)
        · refine a_iconst (kX6_alike.at 42 rfl) rfl ?_
          refine a_iadd (kX6_alike.at 43 rfl) (inr (by omega)) ?_
          refine a_istore (ls' := [(0, vR 44), (1, vI sm), (2, vI q), (3, vI m), (4, vI a), (5, vI (n + 0)), (6, vI b)]) (kX6_alike.at 44 rfl) (by decide) rfl ?_
          refine a_iinc (ls' := [(0, vR 44), (1, vI sm), (2, vI q), (3, vI m), (4, vI a), (5, vI (n + 0)), (6, vI (b + 1))]) (kX6_alike.at 45 rfl) 6 rfl (by decide) (inr (by omega)) rfl ?_
          refine a_goto (tgt := 18) (kX6_alike.at 46 rfl) (by decide) ?_
          exact ih ((b + 1)) ((n + 0)) (by omega) (by omega) (by rw [forR_succ hk0, ← e_n] <;> (clear ih kk e_n; unfold akB hsM; simp [*])) (by omega) (by omega)
        · refine a_iload_n (kX6_alike.at 19 rfl) 1 rfl ?_
          refine a_iload (kX6_alike.at 20 rfl) 6 rfl ?_
          refine AW.callS (as := [vI sm, vI b]) (st := [vI n]) (kX6_alike.at 21 rfl) ml_X6_177 ss_X6_isIn ⟨Nat.le_of_ble_eq_true rfl, Nat.le_of_ble_eq_true rfl⟩ ⟨Nat.le_refl _, Nat.le_refl _⟩ rfl rfl (Nat.le_of_ble_eq_true rfl) (c_isIn G M sm b) (kIE ?_)
          refine a_ifeqB (tgt := 76) (kX6_alike.at 22 rfl) (by decide) (fun h42 => ?_) (fun h42 => ?_)
          · refine a_iconst (kX6_alike.at 42 rfl) rfl ?_
            refine a_iadd (kX6_alike.at 43 rfl) (inr (by omega)) ?_
            refine a_istore (ls' := [(0, vR 44), (1, vI sm), (2, vI q), (3, vI m), (4, vI a), (5, vI (n + 0)), (6, vI b)]) (kX6_alike.at 44 rfl) (by decide) rfl ?_
            refine a_iinc (ls' := [(0, vR 44), (1, vI sm), (2, vI q), (3, vI m), (4, vI a), (5, vI (n + 0)), (6, vI (b + 1))]) (kX6_alike.at 45 rfl) 6 rfl (by decide) (inr (by omega)) rfl ?_
            refine a_goto (tgt := 18) (kX6_alike.at 46 rfl) (by decide) ?_
            exact ih ((b + 1)) ((n + 0)) (by omega) (by omega) (by rw [forR_succ hk0, ← e_n] <;> (clear ih kk e_n; unfold akB hsM; simp [*])) (by omega) (by omega)
          · refine a_aload_n (kX6_alike.at 23 rfl) 0 rfl ?_
            refine a_getR (kX6_alike.at 24 rfl) fg_X6_58 ir_44_30 ?_
            refine a_bipush (kX6_alike.at 25 rfl) rfl rfl ?_
            refine a_iload (kX6_alike.at 26 rfl) 4 rfl ?_
            refine a_imul (kX6_alike.at 27 rfl) (inr (by omega)) ?_
            refine a_iload_n (kX6_alike.at 28 rfl) 2 rfl ?_
            refine a_iadd (kX6_alike.at 29 rfl) (inr (by omega)) ?_
            refine a_iald (x := M 61 ((16 * a) + q)) (kX6_alike.at 30 rfl) (ia_61) (by omega) (rfl) ?_
            refine a_aload_n (kX6_alike.at 31 rfl) 0 rfl ?_
            refine a_getR (kX6_alike.at 32 rfl) fg_X6_58 ir_44_30 ?_
            refine a_bipush (kX6_alike.at 33 rfl) rfl rfl ?_
            refine a_iload (kX6_alike.at 34 rfl) 6 rfl ?_
            refine a_imul (kX6_alike.at 35 rfl) (inr (by omega)) ?_
            refine a_iload_n (kX6_alike.at 36 rfl) 2 rfl ?_
            refine a_iadd (kX6_alike.at 37 rfl) (inr (by omega)) ?_
            refine a_iald (x := M 61 ((16 * b) + q)) (kX6_alike.at 38 rfl) (ia_61) (by omega) (rfl) ?_
            refine a_icmpne (tgt := 76) (kX6_alike.at 39 rfl) (by decide) (fun h69 => ?_) (fun h69 => ?_)
            · refine a_iconst (kX6_alike.at 42 rfl) rfl ?_
              refine a_iadd (kX6_alike.at 43 rfl) (inr (by omega)) ?_
              refine a_istore (ls' := [(0, vR 44), (1, vI sm), (2, vI q), (3, vI m), (4, vI a), (5, vI (n + 0)), (6, vI b)]) (kX6_alike.at 44 rfl) (by decide) rfl ?_
              refine a_iinc (ls' := [(0, vR 44), (1, vI sm), (2, vI q), (3, vI m), (4, vI a), (5, vI (n + 0)), (6, vI (b + 1))]) (kX6_alike.at 45 rfl) 6 rfl (by decide) (inr (by omega)) rfl ?_
              refine a_goto (tgt := 18) (kX6_alike.at 46 rfl) (by decide) ?_
              exact ih ((b + 1)) ((n + 0)) (by omega) (by omega) (by rw [forR_succ hk0, ← e_n] <;> (clear ih kk e_n; unfold akB hsM; simp [*])) (by omega) (by omega)
            · refine a_iconst (kX6_alike.at 40 rfl) rfl ?_
              refine a_goto (tgt := 77) (kX6_alike.at 41 rfl) (by decide) ?_
              refine a_iadd (kX6_alike.at 43 rfl) (inr (by omega)) ?_
              refine a_istore (ls' := [(0, vR 44), (1, vI sm), (2, vI q), (3, vI m), (4, vI a), (5, vI (n + 1)), (6, vI b)]) (kX6_alike.at 44 rfl) (by decide) rfl ?_
              refine a_iinc (ls' := [(0, vR 44), (1, vI sm), (2, vI q), (3, vI m), (4, vI a), (5, vI (n + 1)), (6, vI (b + 1))]) (kX6_alike.at 45 rfl) 6 rfl (by decide) (inr (by omega)) rfl ?_
              refine a_goto (tgt := 18) (kX6_alike.at 46 rfl) (by decide) ?_
              exact ih ((b + 1)) ((n + 1)) (by omega) (by omega) (by rw [forR_succ hk0, ← e_n] <;> (clear ih kk e_n; unfold akB hsM; simp [*])) (by omega) (by omega)
  exact key ((8) - (0) + 1 : Int).toNat (0) 0 (Int.le_refl _) hlohi (forR_nil (Int.le_refl _)).symm (by omega) (by omega)
set_option maxHeartbeats 4000000 in
set_option maxRecDepth 100000 in
theorem l_alikeA (G : GT) (M : Mem) (sm q : Int) (P : Option AV → Mem → Prop) (hq : 0 ≤ q ∧ q ≤ 15) (hlohi : (0 : Int) ≤ 8) (kk : AW G RX6 cX6_alike 7 (some .int) (XM G 1 P) 99 [(0, vR 44), (1, vI sm), (2, vI q), (3, vI (forR 0 8 (akA (hsM M) sm q) 0)), (4, vI 8)] [] M) : AW G RX6 cX6_alike 7 (some .int) (XM G 1 P) 5 [(0, vR 44), (1, vI sm), (2, vI q), (3, vI 0), (4, vI 0)] [] M := by
  have key : ∀ (nn : Nat) (a : Int) (m : Int), (0 : Int) ≤ a → a ≤ 8 → m = forR 0 a (akA (hsM M) sm q) 0 → 8 - a < nn → AW G RX6 cX6_alike 7 (some .int) (XM G 1 P) 5 [(0, vR 44), (1, vI sm), (2, vI q), (3, vI m), (4, vI a)] [] M := by
    intro nn
    induction nn with
    | zero => intro a m hk0 hk1 e_m  hn; omega
    | succ nn ih =>
      intro a m hk0 hk1 e_m  hn
      refine a_iload (kX6_alike.at 4 rfl) 4 rfl ?_
      refine a_bipush (kX6_alike.at 5 rfl) rfl rfl ?_
      refine a_icmpge (tgt := 99) (kX6_alike.at 6 rfl) (by decide) (fun h9 => ?_) (fun h9 => ?_)
      · obtain rfl : a = 8 := by omega
        subst e_m
        exact kk 
      · refine a_iconst (kX6_alike.at 7 rfl) rfl ?_
        refine a_istore (ls' := [(0, vR 44), (1, vI sm), (2, vI q), (3, vI m), (4, vI a), (5, vI 0)]) (kX6_alike.at 8 rfl) (by decide) rfl ?_
        refine a_iconst (kX6_alike.at 9 rfl) rfl ?_
        refine a_istore (ls' := [(0, vR 44), (1, vI sm), (2, vI q), (3, vI m), (4, vI a), (5, vI 0), (6, vI 0)]) (kX6_alike.at 10 rfl) (by decide) rfl ?_
        refine l_alikeB G M sm q m a _ (by omega) (by omega) (by omega) ?_
        intro hb
        show AW _ _ _ _ _ _ 86 [(0, vR 44), (1, vI sm), (2, vI q), (3, vI m), (4, vI a), (5, vI (forR 0 8 (akB (hsM M) sm q a) 0)), (6, vI 8)] [] M
        refine a_iload (kX6_alike.at 47 rfl) 5 rfl ?_
        refine a_iload_n (kX6_alike.at 48 rfl) 3 rfl ?_
        refine AW.callS (as := [vI (forR 0 8 (akB (hsM M) sm q a) 0), vI m]) (st := []) (kX6_alike.at 49 rfl) ml_X6_282 ss_X6_greater ⟨Nat.le_of_ble_eq_true rfl, Nat.le_of_ble_eq_true rfl⟩ ⟨Nat.le_refl _, Nat.le_refl _⟩ rfl rfl (Nat.le_of_ble_eq_true rfl) (c_greater G M (forR 0 8 (akB (hsM M) sm q a) 0) m) (kIE ?_)
        refine a_istore_n (ls' := [(0, vR 44), (1, vI sm), (2, vI q), (3, vI (greater (forR 0 8 (akB (hsM M) sm q a) 0) m)), (4, vI a), (5, vI (forR 0 8 (akB (hsM M) sm q a) 0)), (6, vI 8)]) (kX6_alike.at 50 rfl) (by decide) rfl ?_
        refine a_iinc (ls' := [(0, vR 44), (1, vI sm), (2, vI q), (3, vI (greater (forR 0 8 (akB (hsM M) sm q a) 0) m)), (4, vI (a + 1)), (5, vI (forR 0 8 (akB (hsM M) sm q a) 0)), (6, vI 8)]) (kX6_alike.at 51 rfl) 4 rfl (by decide) (inr (by omega)) rfl ?_
        refine a_goto (tgt := 5) (kX6_alike.at 52 rfl) (by decide) ?_
        refine AW.loc (ls' := [(0, vR 44), (1, vI sm), (2, vI q), (3, vI (greater (forR 0 8 (akB (hsM M) sm q a) 0) m)), (4, vI (a + 1))]) [0, 1, 2, 3, 4] rfl ?_
        exact ih ((a + 1)) ((greater (forR 0 8 (akB (hsM M) sm q a) 0) m)) (by omega) (by omega) (by rw [forR_succ hk0, ← e_m] <;> (clear ih kk e_m; rfl)) (by omega)
  exact key ((8) - (0) + 1 : Int).toNat (0) 0 (Int.le_refl _) hlohi (forR_nil (Int.le_refl _)).symm  (by omega)
theorem c_alike (G : GT) (M : Mem) (sm q : Int) (hq : 0 ≤ q ∧ q ≤ 15) : AM G yX6_alike cX6_alike 7 (some .int) 1 M [vR 44, vI sm, vI q] (qI (alikeF (hsM M) sm q) M) := by
  refine AM.mk (own := RX6) rfl sv_X6_alike.1.2.2.2.2.2 (Nat.le_of_ble_eq_true rfl) rfl ?_
  refine a_iconst (kX6_alike.at 0 rfl) rfl ?_
  refine a_istore_n (ls' := [(0, vR 44), (1, vI sm), (2, vI q), (3, vI 0)]) (kX6_alike.at 1 rfl) (by decide) rfl ?_
  refine a_iconst (kX6_alike.at 2 rfl) rfl ?_
  refine a_istore (ls' := [(0, vR 44), (1, vI sm), (2, vI q), (3, vI 0), (4, vI 0)]) (kX6_alike.at 3 rfl) (by decide) rfl ?_
  refine l_alikeA G M sm q _ hq (by omega) ?_
  show AW _ _ _ _ _ _ 99 [(0, vR 44), (1, vI sm), (2, vI q), (3, vI (alikeF (hsM M) sm q)), (4, vI 8)] [] M
  refine a_iload_n (kX6_alike.at 53 rfl) 3 rfl ?_
  exact a_iretE (kX6_alike.at 54 rfl) (⟨rfl, rfl⟩)
theorem alikeF_E {h1 h2 : Int → Int → Int} {sm q : Int} (h : ∀ v, 0 ≤ v → v < 8 → h2 v q = h1 v q) : alikeF h2 sm q = alikeF h1 sm q := by
  unfold alikeF
  refine forR_cong fun a m x y => ?_
  unfold akA
  congr 1
  refine forR_cong fun b n u v => ?_
  unfold akB
  rw [h a x y, h b u v]
noncomputable def akF (hs : Int → Int → Int) (sm : Int) : Int → Int → Int := fun q best => if alikeF hs sm q < alikeF hs sm best then q else best
noncomputable def askS (M : Mem) (k : Int) : Int := forR 1 16 (akF (hsT M k) (thoughtS M k)) 0
set_option maxHeartbeats 4000000 in
set_option maxRecDepth 100000 in
theorem l_askOf (G : GT) (M : Mem) (k sm : Int) (hs : Int → Int → Int) (P : Option AV → Mem → Prop) (hh : ∀ u q, 0 ≤ u → u < 8 → 0 ≤ q → q < 16 → M 61 (16 * u + q) = hs u q) (hlohi : (1 : Int) ≤ 16) (kk : (0 ≤ (forR 1 16 (akF hs sm) 0) ∧ (forR 1 16 (akF hs sm) 0) ≤ 15) → AW G RX6 cX6_askOf 5 (some .int) (XM G 7 P) 47 [(0, vR 44), (1, vI k), (2, vI sm), (3, vI (forR 1 16 (akF hs sm) 0)), (4, vI 16)] [] M) : AW G RX6 cX6_askOf 5 (some .int) (XM G 7 P) 11 [(0, vR 44), (1, vI k), (2, vI sm), (3, vI 0), (4, vI 1)] [] M := by
  have key : ∀ (nn : Nat) (q : Int) (b : Int), (1 : Int) ≤ q → q ≤ 16 → b = forR 1 q (akF hs sm) 0 → (0 ≤ b ∧ b ≤ 15) → 16 - q < nn → AW G RX6 cX6_askOf 5 (some .int) (XM G 7 P) 11 [(0, vR 44), (1, vI k), (2, vI sm), (3, vI b), (4, vI q)] [] M := by
    intro nn
    induction nn with
    | zero => intro q b hk0 hk1 e_b hb hn; omega
    | succ nn ih =>
      intro q b hk0 hk1 e_b hb hn
      refine a_iload (kX6_askOf.at 8 rfl) 4 rfl ?_
      refine a_bipush (kX6_askOf.at 9 rfl) rfl rfl ?_
      refine a_icmpge (tgt := 47) (kX6_askOf.at 10 rfl) (by decide) (fun h15 => ?_) (fun h15 => ?_)
      · obtain rfl : q = 16 := by omega
        subst e_b
        exact kk hb
      · have eq1 : alikeF (hsM M) sm q = alikeF hs sm q := alikeF_E (fun v x y => hh v q x y (by omega) (by omega))
        have eq2 : alikeF (hsM M) sm b = alikeF hs sm b := alikeF_E (fun v x y => hh v b x y (by omega) (by omega))
        refine a_aload_n (kX6_askOf.at 11 rfl) 0 rfl ?_
        refine a_iload_n (kX6_askOf.at 12 rfl) 2 rfl ?_
        refine a_iload (kX6_askOf.at 13 rfl) 4 rfl ?_
        refine AW.callV (as := [vI sm, vI q]) (st := []) (kX6_askOf.at 14 rfl) ml_X6_285 sv_X6_alike (k := 44) (io_44) rfl rfl ⟨Nat.le_of_ble_eq_true rfl, Nat.le_of_ble_eq_true rfl⟩ ⟨Nat.le_refl _, Nat.le_refl _⟩ rfl rfl (Nat.le_of_ble_eq_true rfl) (c_alike G M sm q (by omega)) (kIE ?_)
        refine a_aload_n (kX6_askOf.at 15 rfl) 0 rfl ?_
        refine a_iload_n (kX6_askOf.at 16 rfl) 2 rfl ?_
        refine a_iload_n (kX6_askOf.at 17 rfl) 3 rfl ?_
        refine AW.callV (as := [vI sm, vI b]) (st := [vI (alikeF (hsM M) sm q)]) (kX6_askOf.at 18 rfl) ml_X6_285 sv_X6_alike (k := 44) (io_44) rfl rfl ⟨Nat.le_of_ble_eq_true rfl, Nat.le_of_ble_eq_true rfl⟩ ⟨Nat.le_refl _, Nat.le_refl _⟩ rfl rfl (Nat.le_of_ble_eq_true rfl) (c_alike G M sm b (by omega)) (kIE ?_)
        refine a_icmpge (tgt := 39) (kX6_askOf.at 19 rfl) (by decide) (fun h31 => ?_) (fun h31 => ?_)
        · refine a_iload_n (kX6_askOf.at 22 rfl) 3 rfl ?_
          refine a_istore_n (ls' := [(0, vR 44), (1, vI k), (2, vI sm), (3, vI b), (4, vI q)]) (kX6_askOf.at 23 rfl) (by decide) rfl ?_
          refine a_iinc (ls' := [(0, vR 44), (1, vI k), (2, vI sm), (3, vI b), (4, vI (q + 1))]) (kX6_askOf.at 24 rfl) 4 rfl (by decide) (inr (by omega)) rfl ?_
          refine a_goto (tgt := 11) (kX6_askOf.at 25 rfl) (by decide) ?_
          exact ih ((q + 1)) (b) (by omega) (by omega) (by rw [forR_succ hk0, ← e_b] <;> (clear ih kk e_b; unfold akF; rw [eq1, eq2] at h31; first | rw [if_pos (by omega)] | rw [if_neg (by omega)])) (by omega) (by omega)
        · refine a_iload (kX6_askOf.at 20 rfl) 4 rfl ?_
          refine a_goto (tgt := 40) (kX6_askOf.at 21 rfl) (by decide) ?_
          refine a_istore_n (ls' := [(0, vR 44), (1, vI k), (2, vI sm), (3, vI q), (4, vI q)]) (kX6_askOf.at 23 rfl) (by decide) rfl ?_
          refine a_iinc (ls' := [(0, vR 44), (1, vI k), (2, vI sm), (3, vI q), (4, vI (q + 1))]) (kX6_askOf.at 24 rfl) 4 rfl (by decide) (inr (by omega)) rfl ?_
          refine a_goto (tgt := 11) (kX6_askOf.at 25 rfl) (by decide) ?_
          exact ih ((q + 1)) (q) (by omega) (by omega) (by rw [forR_succ hk0, ← e_b] <;> (clear ih kk e_b; unfold akF; rw [eq1, eq2] at h31; first | rw [if_pos (by omega)] | rw [if_neg (by omega)])) (by omega) (by omega)
  exact key ((16) - (1) + 1 : Int).toNat (1) 0 (Int.le_refl _) hlohi (forR_nil (Int.le_refl _)).symm (by omega) (by omega)
theorem c_askOf (G : GT) (M : Mem) (k : Int) (hB : BI M) (hQ : QI M) (hk : 0 ≤ k ∧ k < M 44 7) : AM G yX6_askOf cX6_askOf 5 (some .int) 7 M [vR 44, vI k] (pI fun r M' => r = askS M k ∧ Fq M M') := by
  refine AM.mk (own := RX6) rfl sv_X6_askOf.1.2.2.2.2.2 (Nat.le_of_ble_eq_true rfl) rfl ?_
  refine a_aload_n (kX6_askOf.at 0 rfl) 0 rfl ?_
  refine a_iload_n (kX6_askOf.at 1 rfl) 1 rfl ?_
  refine AW.callV (as := [vI k]) (st := []) (kX6_askOf.at 2 rfl) ml_X6_273 sv_X6_thoughtOf (k := 44) (io_44) rfl rfl ⟨Nat.le_of_ble_eq_true rfl, Nat.le_of_ble_eq_true rfl⟩ ⟨Nat.le_refl _, Nat.le_refl _⟩ rfl rfl (Nat.le_of_ble_eq_true rfl) (c_thoughtOf G M k hB hQ hk) (kI fun r N hr => ?_)
  obtain ⟨rfl, hF, hH⟩ := hr
  refine a_istore_n (ls' := [(0, vR 44), (1, vI k), (2, vI (thoughtS M k))]) (kX6_askOf.at 3 rfl) (by decide) rfl ?_
  refine a_iconst (kX6_askOf.at 4 rfl) rfl ?_
  refine a_istore_n (ls' := [(0, vR 44), (1, vI k), (2, vI (thoughtS M k)), (3, vI 0)]) (kX6_askOf.at 5 rfl) (by decide) rfl ?_
  refine a_iconst (kX6_askOf.at 6 rfl) rfl ?_
  refine a_istore (ls' := [(0, vR 44), (1, vI k), (2, vI (thoughtS M k)), (3, vI 0), (4, vI 1)]) (kX6_askOf.at 7 rfl) (by decide) rfl ?_
  refine l_askOf G N k _ (hsT M k) _ hH (by omega) ?_
  intro hb
  show AW _ _ _ _ _ _ 47 [(0, vR 44), (1, vI k), (2, vI (thoughtS M k)), (3, vI (askS M k)), (4, vI 16)] [] N
  refine a_iload_n (kX6_askOf.at 26 rfl) 3 rfl ?_
  exact a_iret (kX6_askOf.at 27 rfl) (⟨rfl, hF⟩)
/-! ===== the reference: chance ===== -/
/-- above and below in lowest terms -/
noncomputable def partS (a b w : Int) : Int := (if w = 0 then a else b) / ((Nat.gcd a.toNat b.toNat : Nat) : Int)
theorem gcd_step {x y : Int} (hx : 0 ≤ x) (hy : 0 < y) : Nat.gcd y.toNat (x % y).toNat = Nat.gcd x.toNat y.toNat := by
  obtain ⟨a, rfl⟩ := nat_of hx
  obtain ⟨b, rfl⟩ := nat_of (Int.le_of_lt hy)
  rw [← Int.natCast_emod, Int.toNat_natCast, Int.toNat_natCast, Int.toNat_natCast, Nat.gcd_comm a b, Nat.gcd_rec b a, Nat.gcd_comm]
set_option maxHeartbeats 4000000 in
set_option maxRecDepth 100000 in
theorem l_part (G : GT) (M : Mem) (a b w : Int) (ha : 0 ≤ a) (hb : 0 < b) : ∀ (n : Nat) (x y : Int), 0 ≤ x → 0 ≤ y → y < n → Nat.gcd x.toNat y.toNat = Nat.gcd a.toNat b.toNat → AW G RX6 cX6_part 11 (some .long) (XM G 0 (qL (partS a b w) M)) 6 [(0, vL a), (2, vL b), (4, vI w), (5, vL x), (7, vL y)] [] M := by
  intro n
  induction n with
  | zero => intro x y hx hy hn; omega
  | succ n ih =>
    intro x y hx hy hn hg
    have hpos : 0 < Nat.gcd a.toNat b.toNat := Nat.gcd_pos_of_pos_right _ (by omega)
    refine a_lload (kX6_part.at 4 rfl) 4 rfl ?_
    refine a_lconst (kX6_part.at 5 rfl) 0 rfl rfl ?_
    refine a_lcmp (kX6_part.at 6 rfl) ?_
    refine a_ifeq (tgt := 31) (kX6_part.at 7 rfl) (by decide) (fun h10 => ?_) (fun h10 => ?_)
    · rw [cmpI_eq] at h10
      rw [h10] at hg
      rw [show (0 : Int).toNat = 0 from rfl, Nat.gcd_zero_right] at hg
      refine a_iload (kX6_part.at 17 rfl) 2 rfl ?_
      refine a_ifne (tgt := 40) (kX6_part.at 18 rfl) (by decide) (fun h33 => ?_) (fun h33 => ?_)
      · refine a_lload_n (kX6_part.at 21 rfl) 1 rfl ?_
        refine a_lload (kX6_part.at 22 rfl) 3 rfl ?_
        refine a_ldiv (kX6_part.at 23 rfl) (by omega) (by omega) ?_
        exact a_lretE (kX6_part.at 24 rfl) (⟨by unfold partS; rw [← hg, show ((x.toNat : Nat) : Int) = x by omega]; first | rw [if_pos (by omega)] | rw [if_neg (by omega)], rfl⟩)
      · refine a_lload_n (kX6_part.at 19 rfl) 0 rfl ?_
        refine a_goto (tgt := 41) (kX6_part.at 20 rfl) (by decide) ?_
        refine a_lload (kX6_part.at 22 rfl) 3 rfl ?_
        refine a_ldiv (kX6_part.at 23 rfl) (by omega) (by omega) ?_
        exact a_lretE (kX6_part.at 24 rfl) (⟨by unfold partS; rw [← hg, show ((x.toNat : Nat) : Int) = x by omega]; first | rw [if_pos (by omega)] | rw [if_neg (by omega)], rfl⟩)
    · rw [cmpI_eq] at h10
      have hy1 : 0 < y := by omega
      have hm0 := Int.emod_nonneg x (show y ≠ 0 by omega)
      have hm1 := Int.emod_lt_of_pos x hy1
      refine a_lload (kX6_part.at 8 rfl) 3 rfl ?_
      refine a_lload (kX6_part.at 9 rfl) 4 rfl ?_
      refine a_lrem (kX6_part.at 10 rfl) (by omega) (by omega) ?_
      refine a_lstore (ls' := [(0, vL a), (2, vL b), (4, vI w), (5, vL x), (7, vL y), (9, vL (x % y))]) (kX6_part.at 11 rfl) (by decide) rfl ?_
      refine a_lload (kX6_part.at 12 rfl) 4 rfl ?_
      refine a_lstore (ls' := [(0, vL a), (2, vL b), (4, vI w), (5, vL y), (7, vL y), (9, vL (x % y))]) (kX6_part.at 13 rfl) (by decide) rfl ?_
      refine a_lload (kX6_part.at 14 rfl) 5 rfl ?_
      refine a_lstore (ls' := [(0, vL a), (2, vL b), (4, vI w), (5, vL y), (7, vL (x % y)), (9, vL (x % y))]) (kX6_part.at 15 rfl) (by decide) rfl ?_
      refine a_goto (tgt := 6) (kX6_part.at 16 rfl) (by decide) ?_
      refine AW.loc (ls' := [(0, vL a), (2, vL b), (4, vI w), (5, vL y), (7, vL (x % y))]) [0, 1, 2, 3, 4] rfl ?_
      exact ih y (x % y) hy hm0 (by omega) (by rw [gcd_step hx hy1]; exact hg)
theorem c_part (G : GT) (M : Mem) (a b w : Int) (ha : 0 ≤ a) (hb : 0 < b) : AM G yX6_part cX6_part 11 (some .long) 0 M [vL a, vL b, vI w] (qL (partS a b w) M) := by
  refine AM.mk (own := RX6) rfl ss_X6_part.1.2.2.2.2.2 (Nat.le_of_ble_eq_true rfl) rfl ?_
  refine a_lload_n (kX6_part.at 0 rfl) 0 rfl ?_
  refine a_lstore (ls' := [(0, vL a), (2, vL b), (4, vI w), (5, vL a)]) (kX6_part.at 1 rfl) (by decide) rfl ?_
  refine a_lload_n (kX6_part.at 2 rfl) 1 rfl ?_
  refine a_lstore (ls' := [(0, vL a), (2, vL b), (4, vI w), (5, vL a), (7, vL b)]) (kX6_part.at 3 rfl) (by decide) rfl ?_
  exact l_part G M a b w ha hb (b.toNat + 1) a b ha (by omega) (by omega) rfl
noncomputable def pw (i : Int) : Int := (16 : Int) ^ i.toNat
theorem pw_0 : pw 0 = 1 := rfl
theorem pw_s {i : Int} (h : 0 ≤ i) : pw (i + 1) = pw i * 16 := by
  unfold pw
  rw [show (i + 1).toNat = i.toNat + 1 by omega, Int.pow_succ]
theorem pw_pos (i : Int) : 0 < pw i := by
  unfold pw
  exact Int.pow_pos (by decide)
theorem pw_le {i : Int} (h0 : 0 ≤ i) (h : i ≤ 8) : pw i ≤ 4294967296 := by
  have key : ∀ k : Fin 9, (16 : Int) ^ k.val ≤ 4294967296 := by decide +kernel
  exact key ⟨i.toNat, by omega⟩
/-- how much one way weighs: which of the events are not (sm) -/
noncomputable def chW (c sm : Int) : Int → Int → Int := fun i w => w * (if isIn sm i = true then 16 - c else c)
noncomputable def chMv (M : Mem) (k sm : Int) : Int := if 0 < lives (upm M 44 11 sm) 54 k then 1 else 0
noncomputable def chA (M : Mem) (c k : Int) : Int → Int → Int := fun sm a => a + forR 0 (M 44 9) (chW c sm) (chMv M k sm)
noncomputable def chAb (M : Mem) (c k : Int) : Int := forR 0 (iShl 1 (M 44 9)) (chA M c k) 0
theorem mul_bd {w x p : Int} (hw : 0 ≤ w ∧ w ≤ p) (hx : 0 ≤ x ∧ x ≤ 16) : 0 ≤ w * x ∧ w * x ≤ p * 16 := ⟨Int.mul_nonneg hw.1 hx.1, Int.mul_le_mul hw.2 hx.2 hx.1 (by omega)⟩
theorem chW_r {c sm : Int} (hc : 0 ≤ c ∧ c ≤ 16) {n w0 : Int} (hn : 0 ≤ n) (hw : 0 ≤ w0 ∧ w0 ≤ 1) : 0 ≤ forR 0 n (chW c sm) w0 ∧ forR 0 n (chW c sm) w0 ≤ pw n := by
  refine forR_inv (fun i w => 0 ≤ w ∧ w ≤ pw i) hn (by rw [pw_0]; exact hw) (fun i w a b h => ?_)
  rw [pw_s a]
  unfold chW
  exact mul_bd h (by split <;> omega)
set_option maxHeartbeats 4000000 in
set_option maxRecDepth 100000 in
theorem l_chanceW (G : GT) (M : Mem) (c k w a sm w0 : Int) (P : Option AV → Mem → Prop) (hc : 0 ≤ c ∧ c ≤ 16) (he : 0 ≤ M 44 9 ∧ M 44 9 ≤ 8) (hw0 : 0 ≤ w0 ∧ w0 ≤ 1) (hlohi : (0 : Int) ≤ (M 44 9)) (kk : (0 ≤ (forR 0 (M 44 9) (chW c sm) w0) ∧ (forR 0 (M 44 9) (chW c sm) w0) ≤ pw (M 44 9)) → AW G RX6 cX6_chanceOf 10 (some .long) (XM G 5 P) 86 [(0, vR 44), (1, vI c), (2, vI k), (3, vI w), (4, vL a), (6, vI sm), (7, vL (forR 0 (M 44 9) (chW c sm) w0)), (9, vI (M 44 9))] [] M) : AW G RX6 cX6_chanceOf 10 (some .long) (XM G 5 P) 46 [(0, vR 44), (1, vI c), (2, vI k), (3, vI w), (4, vL a), (6, vI sm), (7, vL w0), (9, vI 0)] [] M := by
  have key : ∀ (nn : Nat) (i : Int) (v : Int), (0 : Int) ≤ i → i ≤ (M 44 9) → v = forR 0 i (chW c sm) w0 → (0 ≤ v ∧ v ≤ pw i) → (M 44 9) - i < nn → AW G RX6 cX6_chanceOf 10 (some .long) (XM G 5 P) 46 [(0, vR 44), (1, vI c), (2, vI k), (3, vI w), (4, vL a), (6, vI sm), (7, vL v), (9, vI i)] [] M := by
    intro nn
    induction nn with
    | zero => intro i v hk0 hk1 e_v hv hn; omega
    | succ nn ih =>
      intro i v hk0 hk1 e_v hv hn
      refine a_iload (kX6_chanceOf.at 26 rfl) 7 rfl ?_
      refine a_aload_n (kX6_chanceOf.at 27 rfl) 0 rfl ?_
      refine a_getI (x := M 44 9) (kX6_chanceOf.at 28 rfl) fg_X6_128 ii_44_9 (rfl) ?_
      refine a_icmpge (tgt := 86) (kX6_chanceOf.at 29 rfl) (by decide) (fun h52 => ?_) (fun h52 => ?_)
      · obtain rfl : i = M 44 9 := by omega
        subst e_v
        exact kk hv
      · refine a_lload (kX6_chanceOf.at 30 rfl) 6 rfl ?_
        refine a_iload (kX6_chanceOf.at 31 rfl) 5 rfl ?_
        refine a_iload (kX6_chanceOf.at 32 rfl) 7 rfl ?_
        refine AW.callS (as := [vI sm, vI i]) (st := [vL v]) (kX6_chanceOf.at 33 rfl) ml_X6_177 ss_X6_isIn ⟨Nat.le_of_ble_eq_true rfl, Nat.le_of_ble_eq_true rfl⟩ ⟨Nat.le_refl _, Nat.le_refl _⟩ rfl rfl (Nat.le_of_ble_eq_true rfl) (c_isIn G M sm i) (kIE ?_)
        refine a_ifeqB (tgt := 75) (kX6_chanceOf.at 34 rfl) (by decide) (fun h64 => ?_) (fun h64 => ?_)
        · refine a_iload_n (kX6_chanceOf.at 40 rfl) 1 rfl ?_
          refine a_i2l (kX6_chanceOf.at 41 rfl) ?_
          refine a_lmul (kX6_chanceOf.at 42 rfl) ?_
          refine a_lstore (ls' := [(0, vR 44), (1, vI c), (2, vI k), (3, vI w), (4, vL a), (6, vI sm), (7, vL (wL (v * c))), (9, vI i)]) (kX6_chanceOf.at 43 rfl) (by decide) rfl ?_
          refine a_iinc (ls' := [(0, vR 44), (1, vI c), (2, vI k), (3, vI w), (4, vL a), (6, vI sm), (7, vL (wL (v * c))), (9, vI (i + 1))]) (kX6_chanceOf.at 44 rfl) 7 rfl (by decide) (inr (by omega)) rfl ?_
          refine a_goto (tgt := 46) (kX6_chanceOf.at 45 rfl) (by decide) ?_
          exact ih ((i + 1)) ((wL (v * c))) (by omega) (by omega) (by rw [forR_succ hk0, ← e_v] <;> (clear ih kk e_v; unfold chW; first | (rw [if_pos h64]; exact wL_small (by have := mul_bd hv (x := 16 - c) (by omega); have := pw_le hk0 (by omega); omega)) | (rw [if_neg h64]; exact wL_small (by have := mul_bd hv (x := c) (by omega); have := pw_le hk0 (by omega); omega)))) (by rw [pw_s hk0]; first | (rw [wL_small (by have := mul_bd hv (x := 16 - c) (by omega); have := pw_le hk0 (by omega); omega)]; exact mul_bd hv (by omega)) | (rw [wL_small (by have := mul_bd hv (x := c) (by omega); have := pw_le hk0 (by omega); omega)]; exact mul_bd hv (by omega))) (by omega)
        · refine a_bipush (kX6_chanceOf.at 35 rfl) rfl rfl ?_
          refine a_iload_n (kX6_chanceOf.at 36 rfl) 1 rfl ?_
          refine a_isub (kX6_chanceOf.at 37 rfl) (inr (by omega)) ?_
          refine a_i2l (kX6_chanceOf.at 38 rfl) ?_
          refine a_goto (tgt := 77) (kX6_chanceOf.at 39 rfl) (by decide) ?_
          refine a_lmul (kX6_chanceOf.at 42 rfl) ?_
          refine a_lstore (ls' := [(0, vR 44), (1, vI c), (2, vI k), (3, vI w), (4, vL a), (6, vI sm), (7, vL (wL (v * (16 - c)))), (9, vI i)]) (kX6_chanceOf.at 43 rfl) (by decide) rfl ?_
          refine a_iinc (ls' := [(0, vR 44), (1, vI c), (2, vI k), (3, vI w), (4, vL a), (6, vI sm), (7, vL (wL (v * (16 - c)))), (9, vI (i + 1))]) (kX6_chanceOf.at 44 rfl) 7 rfl (by decide) (inr (by omega)) rfl ?_
          refine a_goto (tgt := 46) (kX6_chanceOf.at 45 rfl) (by decide) ?_
          exact ih ((i + 1)) ((wL (v * (16 - c)))) (by omega) (by omega) (by rw [forR_succ hk0, ← e_v] <;> (clear ih kk e_v; unfold chW; first | (rw [if_pos h64]; exact wL_small (by have := mul_bd hv (x := 16 - c) (by omega); have := pw_le hk0 (by omega); omega)) | (rw [if_neg h64]; exact wL_small (by have := mul_bd hv (x := c) (by omega); have := pw_le hk0 (by omega); omega)))) (by rw [pw_s hk0]; first | (rw [wL_small (by have := mul_bd hv (x := 16 - c) (by omega); have := pw_le hk0 (by omega); omega)]; exact mul_bd hv (by omega)) | (rw [wL_small (by have := mul_bd hv (x := c) (by omega); have := pw_le hk0 (by omega); omega)]; exact mul_bd hv (by omega))) (by omega)
  exact key ((M 44 9) - (0) + 1 : Int).toNat (0) w0 (Int.le_refl _) hlohi (forR_nil (Int.le_refl _)).symm (by rw [pw_0]; exact hw0) (by omega)
theorem shl1_8 {e : Int} (h : 0 ≤ e ∧ e ≤ 8) : 1 ≤ iShl 1 e ∧ iShl 1 e ≤ 256 := by
  obtain ⟨a, rfl⟩ := nat_of h.1
  rw [shl1 (by omega)]
  have h1 : 2 ^ a ≤ 2 ^ 8 := Nat.pow_le_pow_right (by decide) (by omega)
  have h2 := Nat.two_pow_pos a
  omega
set_option maxHeartbeats 4000000 in
set_option maxRecDepth 100000 in
theorem l_chance (G : GT) (M : Mem) (c k w : Int) (P : Option AV → Mem → Prop) (hB : BI M) (hc : 0 ≤ c ∧ c ≤ 16) (hk : 0 ≤ k ∧ k < M 44 7) (hlohi : (0 : Int) ≤ (iShl 1 (M 44 9))) (kk : ∀ (N : Mem), (∃ g, Fq (upm M 44 11 g) N) → (0 ≤ (forR 0 (iShl 1 (M 44 9)) (chA M c k) 0) ∧ (forR 0 (iShl 1 (M 44 9)) (chA M c k) 0) ≤ 4294967296 * (iShl 1 (M 44 9))) → AW G RX6 cX6_chanceOf 10 (some .long) (XM G 5 P) 99 [(0, vR 44), (1, vI c), (2, vI k), (3, vI w), (4, vL (forR 0 (iShl 1 (M 44 9)) (chA M c k) 0)), (6, vI (iShl 1 (M 44 9)))] [] N) : AW G RX6 cX6_chanceOf 10 (some .long) (XM G 5 P) 6 [(0, vR 44), (1, vI c), (2, vI k), (3, vI w), (4, vL 0), (6, vI 0)] [] M := by
  have key : ∀ (nn : Nat) (sm : Int) (a : Int) (N : Mem), (0 : Int) ≤ sm → sm ≤ (iShl 1 (M 44 9)) → a = forR 0 sm (chA M c k) 0 → (∃ g, Fq (upm M 44 11 g) N) → (0 ≤ a ∧ a ≤ 4294967296 * sm) → (iShl 1 (M 44 9)) - sm < nn → AW G RX6 cX6_chanceOf 10 (some .long) (XM G 5 P) 6 [(0, vR 44), (1, vI c), (2, vI k), (3, vI w), (4, vL a), (6, vI sm)] [] N := by
    intro nn
    induction nn with
    | zero => intro sm a N hk0 hk1 e_a hF ha hn; omega
    | succ nn ih =>
      intro sm a N hk0 hk1 e_a hF ha hn
      obtain ⟨g, hF1⟩ := id hF
      have he := hB.1.2
      have h256 := shl1_8 he
      have hp := hB.1.1.1
      have e9 : N 44 9 = M 44 9 := hF1 44 9 (by omega) (by omega) (by omega) (by omega)
      have hFs : Fq (upm M 44 11 sm) (upm N 44 11 sm) := hF1.set
      have hLs : LI (upm N 44 11 sm) := (hB.1.fld (j := 11) (by omega)).Fq hFs
      have hF2 := hFs.trans (Fr_lives (upm N 44 11 sm)).q
      have f9 : lives (upm N 44 11 sm) 44 9 = M 44 9 := hF2 44 9 (by omega) (by omega) (by omega) (by omega)
      have eL : lives (upm N 44 11 sm) 54 k = lives (upm M 44 11 sm) 54 k := ((lives_E (hFs.inE hB.2.2) hp).1.2.1 k hk.1 (by rw [(Fr_lives _).people]; exact hk.2)).2.2.1
      have eW1 : forR 0 (lives (upm N 44 11 sm) 44 9) (chW c sm) 1 = forR 0 (M 44 9) (chW c sm) 1 := by rw [f9]
      have eW0 : forR 0 (lives (upm N 44 11 sm) 44 9) (chW c sm) 0 = forR 0 (M 44 9) (chW c sm) 0 := by rw [f9]
      have r1 := chW_r (sm := sm) hc he.1 (w0 := 1) (by omega)
      have r0 := chW_r (sm := sm) hc he.1 (w0 := 0) (by omega)
      have rp := pw_le he.1 he.2
      refine a_iload (kX6_chanceOf.at 4 rfl) 5 rfl ?_
      refine a_iconst (kX6_chanceOf.at 5 rfl) rfl ?_
      refine a_aload_n (kX6_chanceOf.at 6 rfl) 0 rfl ?_
      refine a_getI (x := N 44 9) (kX6_chanceOf.at 7 rfl) fg_X6_128 ii_44_9 (rfl) ?_
      refine a_ishl (kX6_chanceOf.at 8 rfl) ?_
      rw [e9]
      refine a_icmpge (tgt := 99) (kX6_chanceOf.at 9 rfl) (by decide) (fun h14 => ?_) (fun h14 => ?_)
      · obtain rfl : sm = iShl 1 (M 44 9) := by omega
        subst e_a
        exact kk N hF ha
      · refine a_aload_n (kX6_chanceOf.at 10 rfl) 0 rfl ?_
        refine a_iload (kX6_chanceOf.at 11 rfl) 5 rfl ?_
        refine a_putI (j := 11) (kX6_chanceOf.at 12 rfl) fp_X6_174 (ii_44_11) rfl ?_
        refine a_aload_n (kX6_chanceOf.at 13 rfl) 0 rfl ?_
        refine AW.callV (as := []) (st := []) (kX6_chanceOf.at 14 rfl) ml_X6_200 sv_X6_lives (k := 44) (io_44) rfl rfl ⟨Nat.le_of_ble_eq_true rfl, Nat.le_of_ble_eq_true rfl⟩ ⟨Nat.le_refl _, Nat.le_refl _⟩ rfl rfl (Nat.le_of_ble_eq_true rfl) (c_lives G (upm N 44 11 sm) hLs.1 hLs.2) (kVE ?_)
        refine a_aload_n (kX6_chanceOf.at 15 rfl) 0 rfl ?_
        refine a_getR (kX6_chanceOf.at 16 rfl) fg_X6_37 ir_44_17 ?_
        refine a_iload_n (kX6_chanceOf.at 17 rfl) 2 rfl ?_
        refine a_iald (x := (lives (upm N 44 11 sm)) 54 k) (kX6_chanceOf.at 18 rfl) (ia_54) (by omega) (rfl) ?_
        refine a_ifle (tgt := 40) (kX6_chanceOf.at 19 rfl) (by decide) (fun h33 => ?_) (fun h33 => ?_)
        · refine a_lconst (kX6_chanceOf.at 22 rfl) 0 rfl rfl ?_
          refine a_lstore (ls' := [(0, vR 44), (1, vI c), (2, vI k), (3, vI w), (4, vL a), (6, vI sm), (7, vL 0)]) (kX6_chanceOf.at 23 rfl) (by decide) rfl ?_
          refine a_iconst (kX6_chanceOf.at 24 rfl) rfl ?_
          refine a_istore (ls' := [(0, vR 44), (1, vI c), (2, vI k), (3, vI w), (4, vL a), (6, vI sm), (7, vL 0), (9, vI 0)]) (kX6_chanceOf.at 25 rfl) (by decide) rfl ?_
          refine l_chanceW G (lives (upm N 44 11 sm)) c k w a sm 0 _ hc (by omega) (by omega) (by omega) ?_
          intro hv
          show AW _ _ _ _ _ _ 86 [(0, vR 44), (1, vI c), (2, vI k), (3, vI w), (4, vL a), (6, vI sm), (7, vL (forR 0 ((lives (upm N 44 11 sm)) 44 9) (chW c sm) 0)), (9, vI ((lives (upm N 44 11 sm)) 44 9))] [] (lives (upm N 44 11 sm))
          refine a_lload (kX6_chanceOf.at 46 rfl) 4 rfl ?_
          refine a_lload (kX6_chanceOf.at 47 rfl) 6 rfl ?_
          refine a_ladd (kX6_chanceOf.at 48 rfl) ?_
          refine a_lstore (ls' := [(0, vR 44), (1, vI c), (2, vI k), (3, vI w), (4, vL (wL (a + (forR 0 ((lives (upm N 44 11 sm)) 44 9) (chW c sm) 0)))), (6, vI sm), (7, vL (forR 0 ((lives (upm N 44 11 sm)) 44 9) (chW c sm) 0)), (9, vI ((lives (upm N 44 11 sm)) 44 9))]) (kX6_chanceOf.at 49 rfl) (by decide) rfl ?_
          refine a_iinc (ls' := [(0, vR 44), (1, vI c), (2, vI k), (3, vI w), (4, vL (wL (a + (forR 0 ((lives (upm N 44 11 sm)) 44 9) (chW c sm) 0)))), (6, vI (sm + 1)), (7, vL (forR 0 ((lives (upm N 44 11 sm)) 44 9) (chW c sm) 0)), (9, vI ((lives (upm N 44 11 sm)) 44 9))]) (kX6_chanceOf.at 50 rfl) 5 rfl (by decide) (inr (by omega)) rfl ?_
          refine a_goto (tgt := 6) (kX6_chanceOf.at 51 rfl) (by decide) ?_
          refine AW.loc (ls' := [(0, vR 44), (1, vI c), (2, vI k), (3, vI w), (4, vL (wL (a + (forR 0 ((lives (upm N 44 11 sm)) 44 9) (chW c sm) 0)))), (6, vI (sm + 1))]) [0, 1, 2, 3, 4, 5] rfl ?_
          exact ih ((sm + 1)) ((wL (a + (forR 0 ((lives (upm N 44 11 sm)) 44 9) (chW c sm) 0)))) ((lives (upm N 44 11 sm))) (by omega) (by omega) (by rw [forR_succ hk0, ← e_a] <;> (clear ih kk e_a; unfold chA chMv; rw [eL] at h33; first | (rw [if_pos (by omega), eW1]; exact wL_small (by omega)) | (rw [if_neg (by omega), eW0]; exact wL_small (by omega)))) (⟨_, hF2⟩) (by first | (rw [eW1, wL_small (by omega)]; omega) | (rw [eW0, wL_small (by omega)]; omega)) (by omega)
        · refine a_lconst (kX6_chanceOf.at 20 rfl) 1 rfl rfl ?_
          refine a_goto (tgt := 41) (kX6_chanceOf.at 21 rfl) (by decide) ?_
          refine a_lstore (ls' := [(0, vR 44), (1, vI c), (2, vI k), (3, vI w), (4, vL a), (6, vI sm), (7, vL 1)]) (kX6_chanceOf.at 23 rfl) (by decide) rfl ?_
          refine a_iconst (kX6_chanceOf.at 24 rfl) rfl ?_
          refine a_istore (ls' := [(0, vR 44), (1, vI c), (2, vI k), (3, vI w), (4, vL a), (6, vI sm), (7, vL 1), (9, vI 0)]) (kX6_chanceOf.at 25 rfl) (by decide) rfl ?_
          refine l_chanceW G (lives (upm N 44 11 sm)) c k w a sm 1 _ hc (by omega) (by omega) (by omega) ?_
          intro hv
          show AW _ _ _ _ _ _ 86 [(0, vR 44), (1, vI c), (2, vI k), (3, vI w), (4, vL a), (6, vI sm), (7, vL (forR 0 ((lives (upm N 44 11 sm)) 44 9) (chW c sm) 1)), (9, vI ((lives (upm N 44 11 sm)) 44 9))] [] (lives (upm N 44 11 sm))
          refine a_lload (kX6_chanceOf.at 46 rfl) 4 rfl ?_
          refine a_lload (kX6_chanceOf.at 47 rfl) 6 rfl ?_
          refine a_ladd (kX6_chanceOf.at 48 rfl) ?_
          refine a_lstore (ls' := [(0, vR 44), (1, vI c), (2, vI k), (3, vI w), (4, vL (wL (a + (forR 0 ((lives (upm N 44 11 sm)) 44 9) (chW c sm) 1)))), (6, vI sm), (7, vL (forR 0 ((lives (upm N 44 11 sm)) 44 9) (chW c sm) 1)), (9, vI ((lives (upm N 44 11 sm)) 44 9))]) (kX6_chanceOf.at 49 rfl) (by decide) rfl ?_
          refine a_iinc (ls' := [(0, vR 44), (1, vI c), (2, vI k), (3, vI w), (4, vL (wL (a + (forR 0 ((lives (upm N 44 11 sm)) 44 9) (chW c sm) 1)))), (6, vI (sm + 1)), (7, vL (forR 0 ((lives (upm N 44 11 sm)) 44 9) (chW c sm) 1)), (9, vI ((lives (upm N 44 11 sm)) 44 9))]) (kX6_chanceOf.at 50 rfl) 5 rfl (by decide) (inr (by omega)) rfl ?_
          refine a_goto (tgt := 6) (kX6_chanceOf.at 51 rfl) (by decide) ?_
          refine AW.loc (ls' := [(0, vR 44), (1, vI c), (2, vI k), (3, vI w), (4, vL (wL (a + (forR 0 ((lives (upm N 44 11 sm)) 44 9) (chW c sm) 1)))), (6, vI (sm + 1))]) [0, 1, 2, 3, 4, 5] rfl ?_
          exact ih ((sm + 1)) ((wL (a + (forR 0 ((lives (upm N 44 11 sm)) 44 9) (chW c sm) 1)))) ((lives (upm N 44 11 sm))) (by omega) (by omega) (by rw [forR_succ hk0, ← e_a] <;> (clear ih kk e_a; unfold chA chMv; rw [eL] at h33; first | (rw [if_pos (by omega), eW1]; exact wL_small (by omega)) | (rw [if_neg (by omega), eW0]; exact wL_small (by omega)))) (⟨_, hF2⟩) (by first | (rw [eW1, wL_small (by omega)]; omega) | (rw [eW0, wL_small (by omega)]; omega)) (by omega)
  exact key ((iShl 1 (M 44 9)) - (0) + 1 : Int).toNat (0) 0 M (Int.le_refl _) hlohi (forR_nil (Int.le_refl _)).symm (⟨M 44 11, by rw [upm_self]; exact Fq.refl M⟩) (by omega) (by omega)
noncomputable def chanceS (M : Mem) (c k w : Int) : Int := partS (chAb M c k) (lShl 1 (4 * M 44 9)) w
theorem lShl_8 {e : Int} (h : 0 ≤ e ∧ e ≤ 8) : lShl 1 (4 * e) = pw e := by
  have key : ∀ k : Fin 9, lShl 1 (4 * (k.val : Int)) = (16 : Int) ^ k.val := by decide +kernel
  obtain ⟨a, rfl⟩ := nat_of h.1
  exact key ⟨a, by omega⟩
theorem c_chanceOf (G : GT) (M : Mem) (c k w : Int) (hB : BI M) (hc : 0 ≤ c ∧ c ≤ 16) (hk : 0 ≤ k ∧ k < M 44 7) : AM G yX6_chanceOf cX6_chanceOf 10 (some .long) 5 M [vR 44, vI c, vI k, vI w] (pL fun r M' => r = chanceS M c k w ∧ Fq M M') := by
  refine AM.mk (own := RX6) rfl sv_X6_chanceOf.1.2.2.2.2.2 (Nat.le_of_ble_eq_true rfl) rfl ?_
  have he := hB.1.2
  have h256 := shl1_8 he
  have hb : 0 < lShl 1 (4 * M 44 9) := by rw [lShl_8 he]; exact pw_pos _
  refine a_lconst (kX6_chanceOf.at 0 rfl) 0 rfl rfl ?_
  refine a_lstore (ls' := [(0, vR 44), (1, vI c), (2, vI k), (3, vI w), (4, vL 0)]) (kX6_chanceOf.at 1 rfl) (by decide) rfl ?_
  refine a_iconst (kX6_chanceOf.at 2 rfl) rfl ?_
  refine a_istore (ls' := [(0, vR 44), (1, vI c), (2, vI k), (3, vI w), (4, vL 0), (6, vI 0)]) (kX6_chanceOf.at 3 rfl) (by decide) rfl ?_
  refine l_chance G M c k w _ hB hc hk (by omega) ?_
  intro N hF ha
  show AW _ _ _ _ _ _ 99 [(0, vR 44), (1, vI c), (2, vI k), (3, vI w), (4, vL (chAb M c k)), (6, vI (iShl 1 (M 44 9)))] [] N
  obtain ⟨g, hF1⟩ := hF
  have e9 : N 44 9 = M 44 9 := hF1 44 9 (by omega) (by omega) (by omega) (by omega)
  change 0 ≤ chAb M c k ∧ _ at ha
  refine a_aload_n (kX6_chanceOf.at 52 rfl) 0 rfl ?_
  refine a_iconst (kX6_chanceOf.at 53 rfl) rfl ?_
  refine a_putI (j := 11) (kX6_chanceOf.at 54 rfl) fp_X6_174 (ii_44_11) rfl ?_
  refine a_lload (kX6_chanceOf.at 55 rfl) 4 rfl ?_
  refine a_lconst (kX6_chanceOf.at 56 rfl) 1 rfl rfl ?_
  refine a_iconst (kX6_chanceOf.at 57 rfl) rfl ?_
  refine a_aload_n (kX6_chanceOf.at 58 rfl) 0 rfl ?_
  refine a_getI (x := N 44 9) (kX6_chanceOf.at 59 rfl) fg_X6_128 ii_44_9 (rd_ni (by decide)) ?_
  refine a_imul (kX6_chanceOf.at 60 rfl) (inr (by omega)) ?_
  refine a_lshl (kX6_chanceOf.at 61 rfl) ?_
  refine a_iload_n (kX6_chanceOf.at 62 rfl) 3 rfl ?_
  refine AW.callS (as := [vL (chAb M c k), vL (lShl 1 (4 * (N 44 9))), vI w]) (st := []) (kX6_chanceOf.at 63 rfl) ml_X6_291 ss_X6_part ⟨Nat.le_of_ble_eq_true rfl, Nat.le_of_ble_eq_true rfl⟩ ⟨Nat.le_refl _, Nat.le_refl _⟩ rfl rfl (Nat.le_of_ble_eq_true rfl) (c_part G (upm N 44 11 0) (chAb M c k) (lShl 1 (4 * (N 44 9))) w ha.1 (by rw [e9]; exact hb)) (kLE ?_)
  exact a_lret (kX6_chanceOf.at 64 rfl) (⟨by unfold chanceS; rw [e9], by have := hF1.back; rw [hB.2.1] at this; exact this⟩)
/-! ===== the reference: decades ===== -/
noncomputable def nxS (s : Int) : Int := wI (wI (1103515245 * s) + 12345)
noncomputable def lotS (s m : Int) : Int := iUshr s 16 % m
theorem ushr_r (s : Int) : 0 ≤ iUshr s 16 ∧ iUshr s 16 ≤ 65535 := by
  unfold iUshr
  have e : ((Int32.ofInt 16).toUInt32 &&& Int32.toUInt32 31) = 16 := by decide +kernel
  rw [e]
  have h : ((Int32.ofInt s).toUInt32 >>> (16 : UInt32)).toInt32.toBitVec.toNat ≤ 65535 := by
    rw [UInt32.toBitVec_toInt32]
    show ((Int32.ofInt s).toUInt32 >>> (16 : UInt32)).toNat ≤ 65535
    rw [UInt32.toNat_shiftRight]
    have := (Int32.ofInt s).toUInt32.toNat_lt
    rw [Nat.shiftRight_eq_div_pow]
    show _ / 2 ^ 16 ≤ _
    omega
  rw [bv_to (n := _) (by omega) rfl]
  omega
theorem c_lot (G : GT) (M : Mem) (m : Int) (hm : 0 < m) : AM G yX6_lot cX6_lot 2 (some .int) 0 M [vR 44, vI m] (qI (lotS (nxS (M 44 31)) m) (upm M 44 31 (nxS (M 44 31)))) := by
  refine AM.mk (own := RX6) rfl sv_X6_lot.1.2.2.2.2.2 (Nat.le_of_ble_eq_true rfl) rfl ?_
  have hu := ushr_r (nxS (M 44 31))
  refine a_aload_n (kX6_lot.at 0 rfl) 0 rfl ?_
  refine a_ldcw (kX6_lot.at 1 rfl) cn_X6_305 (1103515245) rfl rfl ?_
  refine a_aload_n (kX6_lot.at 2 rfl) 0 rfl ?_
  refine a_getI (x := M 44 31) (kX6_lot.at 3 rfl) fg_X6_306 ii_44_31 (rfl) ?_
  refine a_imulW (kX6_lot.at 4 rfl) ?_
  refine a_sipush (kX6_lot.at 5 rfl) rfl rfl ?_
  refine a_iaddW (kX6_lot.at 6 rfl) ?_
  refine a_putI (j := 31) (kX6_lot.at 7 rfl) fp_X6_306 (ii_44_31) rfl ?_
  refine a_aload_n (kX6_lot.at 8 rfl) 0 rfl ?_
  refine a_getI (x := wI ((wI (1103515245 * (M 44 31))) + 12345)) (kX6_lot.at 9 rfl) fg_X6_306 ii_44_31 (rd_eq) ?_
  refine a_bipush (kX6_lot.at 10 rfl) rfl rfl ?_
  refine a_iushr (kX6_lot.at 11 rfl) ?_
  refine a_iload_n (kX6_lot.at 12 rfl) 1 rfl ?_
  refine a_irem (kX6_lot.at 13 rfl) (by first | exact hu.1 | exact hm) (by first | exact hu.1 | exact hm) ?_
  exact a_iretE (kX6_lot.at 14 rfl) (⟨rfl, rfl⟩)
noncomputable def dcF : Int → Mem → Mem := fun _ N => keeps (upm (upm (upm N 44 31 (nxS (N 44 31))) 44 31 (nxS (nxS (N 44 31)))) 44 31 (nxS (nxS (nxS (N 44 31))))) (lotS (nxS (N 44 31)) 4) (lotS (nxS (nxS (N 44 31))) 16) (lotS (nxS (nxS (nxS (N 44 31)))) (N 44 7))
/-- the events that a seed draws, in place of those told -/
noncomputable def decN (M : Mem) (seed n : Int) : Mem := forR 0 (if 0 < M 44 7 then n else 0) dcF (upm (upm M 44 31 seed) 44 9 0)
noncomputable def decadesS (M : Mem) (seed n w : Int) : Int := sumBy (lives (decN M seed n)) w
noncomputable def tdF : Int → Mem → Mem := fun i N => upm N 62 i (N 51 i)
noncomputable def tbF : Int → Mem → Mem := fun i N => upm N 51 i (N 62 i)
set_option maxHeartbeats 4000000 in
set_option maxRecDepth 100000 in
theorem l_dec1 (G : GT) (M : Mem) (seed n w many : Int) (X : XT) (hlohi : (0 : Int) ≤ 24) (kk : AW G RX6 cX6_decadesOf 8 (some .int) X 36 [(0, vR 44), (1, vI seed), (2, vI n), (3, vI w), (4, vI many), (5, vI 24)] [] (forR 0 24 tdF M)) : AW G RX6 cX6_decadesOf 8 (some .int) X 9 [(0, vR 44), (1, vI seed), (2, vI n), (3, vI w), (4, vI many), (5, vI 0)] [] M := by
  have key : ∀ (nn : Nat) (i : Int) (N : Mem), (0 : Int) ≤ i → i ≤ 24 → N = forR 0 i tdF M → 24 - i < nn → AW G RX6 cX6_decadesOf 8 (some .int) X 9 [(0, vR 44), (1, vI seed), (2, vI n), (3, vI w), (4, vI many), (5, vI i)] [] N := by
    intro nn
    induction nn with
    | zero => intro i N hk0 hk1 e_N  hn; omega
    | succ nn ih =>
      intro i N hk0 hk1 e_N  hn
      refine a_iload (kX6_decadesOf.at 5 rfl) 5 rfl ?_
      refine a_bipush (kX6_decadesOf.at 6 rfl) rfl rfl ?_
      refine a_icmpge (tgt := 36) (kX6_decadesOf.at 7 rfl) (by decide) (fun h13 => ?_) (fun h13 => ?_)
      · obtain rfl : i = 24 := by omega
        subst e_N
        exact kk 
      · refine a_aload_n (kX6_decadesOf.at 8 rfl) 0 rfl ?_
        refine a_getR (kX6_decadesOf.at 9 rfl) fg_X6_61 ir_44_32 ?_
        refine a_iload (kX6_decadesOf.at 10 rfl) 5 rfl ?_
        refine a_aload_n (kX6_decadesOf.at 11 rfl) 0 rfl ?_
        refine a_getR (kX6_decadesOf.at 12 rfl) fg_X6_28 ir_44_10 ?_
        refine a_iload (kX6_decadesOf.at 13 rfl) 5 rfl ?_
        refine a_iald (x := N 51 i) (kX6_decadesOf.at 14 rfl) (ia_51) (by omega) (rfl) ?_
        refine a_iast (kX6_decadesOf.at 15 rfl) (ia_62) (by omega) ?_
        refine a_iinc (ls' := [(0, vR 44), (1, vI seed), (2, vI n), (3, vI w), (4, vI many), (5, vI (i + 1))]) (kX6_decadesOf.at 16 rfl) 5 rfl (by decide) (inr (by omega)) rfl ?_
        refine a_goto (tgt := 9) (kX6_decadesOf.at 17 rfl) (by decide) ?_
        exact ih ((i + 1)) ((upm N 62 i (N 51 i))) (by omega) (by omega) (by rw [forR_succ hk0, ← e_N] <;> (clear ih kk e_N; rfl)) (by omega)
  exact key ((24) - (0) + 1 : Int).toNat (0) M (Int.le_refl _) hlohi (forR_nil (Int.le_refl _)).symm  (by omega)
set_option maxHeartbeats 4000000 in
set_option maxRecDepth 100000 in
theorem l_dec3 (G : GT) (M : Mem) (seed n w many : Int) (X : XT) (hlohi : (0 : Int) ≤ 24) (kk : AW G RX6 cX6_decadesOf 8 (some .int) X 133 [(0, vR 44), (1, vI seed), (2, vI n), (3, vI w), (4, vI many), (5, vI 24)] [] (forR 0 24 tbF M)) : AW G RX6 cX6_decadesOf 8 (some .int) X 106 [(0, vR 44), (1, vI seed), (2, vI n), (3, vI w), (4, vI many), (5, vI 0)] [] M := by
  have key : ∀ (nn : Nat) (i : Int) (N : Mem), (0 : Int) ≤ i → i ≤ 24 → N = forR 0 i tbF M → 24 - i < nn → AW G RX6 cX6_decadesOf 8 (some .int) X 106 [(0, vR 44), (1, vI seed), (2, vI n), (3, vI w), (4, vI many), (5, vI i)] [] N := by
    intro nn
    induction nn with
    | zero => intro i N hk0 hk1 e_N  hn; omega
    | succ nn ih =>
      intro i N hk0 hk1 e_N  hn
      refine a_iload (kX6_decadesOf.at 54 rfl) 5 rfl ?_
      refine a_bipush (kX6_decadesOf.at 55 rfl) rfl rfl ?_
      refine a_icmpge (tgt := 133) (kX6_decadesOf.at 56 rfl) (by decide) (fun h110 => ?_) (fun h110 => ?_)
      · obtain rfl : i = 24 := by omega
        subst e_N
        exact kk 
      · refine a_aload_n (kX6_decadesOf.at 57 rfl) 0 rfl ?_
        refine a_getR (kX6_decadesOf.at 58 rfl) fg_X6_28 ir_44_10 ?_
        refine a_iload (kX6_decadesOf.at 59 rfl) 5 rfl ?_
        refine a_aload_n (kX6_decadesOf.at 60 rfl) 0 rfl ?_
        refine a_getR (kX6_decadesOf.at 61 rfl) fg_X6_61 ir_44_32 ?_
        refine a_iload (kX6_decadesOf.at 62 rfl) 5 rfl ?_
        refine a_iald (x := N 62 i) (kX6_decadesOf.at 63 rfl) (ia_62) (by omega) (rfl) ?_
        refine a_iast (kX6_decadesOf.at 64 rfl) (ia_51) (by omega) ?_
        refine a_iinc (ls' := [(0, vR 44), (1, vI seed), (2, vI n), (3, vI w), (4, vI many), (5, vI (i + 1))]) (kX6_decadesOf.at 65 rfl) 5 rfl (by decide) (inr (by omega)) rfl ?_
        refine a_goto (tgt := 106) (kX6_decadesOf.at 66 rfl) (by decide) ?_
        exact ih ((i + 1)) ((upm N 51 i (N 62 i))) (by omega) (by omega) (by rw [forR_succ hk0, ← e_N] <;> (clear ih kk e_N; rfl)) (by omega)
  exact key ((24) - (0) + 1 : Int).toNat (0) M (Int.le_refl _) hlohi (forR_nil (Int.le_refl _)).symm  (by omega)
theorem dcF_fr (i : Int) (N : Mem) (c : Nat) (j : Int) (h : c ≠ 51) (h2 : ¬ (c = 44 ∧ (j = 9 ∨ j = 31))) : dcF i N c j = N c j := by
  unfold dcF keeps
  by_cases e : c = 44
  · subst e
    rw [rd_ni (by omega), rd_ne (by decide), rd_ne (by decide), rd_ne (by decide), rd_ni (by omega), rd_ni (by omega), rd_ni (by omega)]
  · rw [rd_ne e, rd_ne h, rd_ne h, rd_ne h, rd_ne e, rd_ne e, rd_ne e]
theorem dcF_9 (i : Int) (N : Mem) : dcF i N 44 9 = N 44 9 + 1 := by
  unfold dcF keeps
  rw [rd_eq, rd_ni (by decide), rd_ni (by decide), rd_ni (by decide)]
theorem dec_fr (M : Mem) (n : Int) (hn : 0 ≤ n) : (∀ (c : Nat) (j : Int), c ≠ 51 → ¬ (c = 44 ∧ (j = 9 ∨ j = 31)) → forR 0 n dcF M c j = M c j) ∧ forR 0 n dcF M 44 9 = M 44 9 + n :=
  forR_inv (fun i (K : Mem) => (∀ (c : Nat) (j : Int), c ≠ 51 → ¬ (c = 44 ∧ (j = 9 ∨ j = 31)) → K c j = M c j) ∧ K 44 9 = M 44 9 + i) hn ⟨fun _ _ _ _ => rfl, by omega⟩ (fun i K a b hK => ⟨fun c j h1 h2 => (dcF_fr i K c j h1 h2).trans (hK.1 c j h1 h2), by rw [dcF_9, hK.2]; omega⟩)
set_option maxHeartbeats 4000000 in
set_option maxRecDepth 100000 in
theorem l_dec2 (G : GT) (M : Mem) (seed n w many : Int) (P : Option AV → Mem → Prop) (hn : 0 ≤ n ∧ n ≤ 8) (hp : 0 < M 44 7 ∧ M 44 7 ≤ 8) (h9 : M 44 9 = 0) (hlohi : (0 : Int) ≤ n) (kk : AW G RX6 cX6_decadesOf 8 (some .int) (XM G 5 P) 99 [(0, vR 44), (1, vI seed), (2, vI n), (3, vI w), (4, vI many), (5, vI n)] [] (forR 0 n dcF M)) : AW G RX6 cX6_decadesOf 8 (some .int) (XM G 5 P) 49 [(0, vR 44), (1, vI seed), (2, vI n), (3, vI w), (4, vI many), (5, vI 0)] [] M := by
  have key : ∀ (nn : Nat) (i : Int) (N : Mem), (0 : Int) ≤ i → i ≤ n → N = forR 0 i dcF M → n - i < nn → AW G RX6 cX6_decadesOf 8 (some .int) (XM G 5 P) 49 [(0, vR 44), (1, vI seed), (2, vI n), (3, vI w), (4, vI many), (5, vI i)] [] N := by
    intro nn
    induction nn with
    | zero => intro i N hk0 hk1 e_N  hn; omega
    | succ nn ih =>
      intro i N hk0 hk1 e_N  hn
      have hfr := e_N ▸ dec_fr M i hk0
      have e7 : N 44 7 = M 44 7 := hfr.1 44 7 (by omega) (by omega)
      have e9 : N 44 9 = M 44 9 + i := hfr.2
      refine a_iload (kX6_decadesOf.at 26 rfl) 5 rfl ?_
      refine a_iload_n (kX6_decadesOf.at 27 rfl) 2 rfl ?_
      refine a_icmpge (tgt := 99) (kX6_decadesOf.at 28 rfl) (by decide) (fun h52 => ?_) (fun h52 => ?_)
      · obtain rfl : i = n := by omega
        subst e_N
        exact kk 
      · refine a_aload_n (kX6_decadesOf.at 29 rfl) 0 rfl ?_
        refine a_getI (x := N 44 7) (kX6_decadesOf.at 30 rfl) fg_X6_105 ii_44_7 (rfl) ?_
        refine a_ifle (tgt := 99) (kX6_decadesOf.at 31 rfl) (by decide) (fun h59 => ?_) (fun h59 => ?_)
        · obtain rfl : i = n := by omega
          subst e_N
          exact kk 
        · refine a_aload_n (kX6_decadesOf.at 32 rfl) 0 rfl ?_
          refine a_iconst (kX6_decadesOf.at 33 rfl) rfl ?_
          refine AW.callV (as := [vI 4]) (st := []) (kX6_decadesOf.at 34 rfl) ml_X6_309 sv_X6_lot (k := 44) (io_44) rfl rfl ⟨Nat.le_of_ble_eq_true rfl, Nat.le_of_ble_eq_true rfl⟩ ⟨Nat.le_refl _, Nat.le_refl _⟩ rfl rfl (Nat.le_of_ble_eq_true rfl) (c_lot G N 4 (by omega)) (kIE ?_)
          refine a_istore (ls' := [(0, vR 44), (1, vI seed), (2, vI n), (3, vI w), (4, vI many), (5, vI i), (6, vI (lotS (nxS (N 44 31)) 4))]) (kX6_decadesOf.at 35 rfl) (by decide) rfl ?_
          refine a_aload_n (kX6_decadesOf.at 36 rfl) 0 rfl ?_
          refine a_bipush (kX6_decadesOf.at 37 rfl) rfl rfl ?_
          refine AW.callV (as := [vI 16]) (st := []) (kX6_decadesOf.at 38 rfl) ml_X6_309 sv_X6_lot (k := 44) (io_44) rfl rfl ⟨Nat.le_of_ble_eq_true rfl, Nat.le_of_ble_eq_true rfl⟩ ⟨Nat.le_refl _, Nat.le_refl _⟩ rfl rfl (Nat.le_of_ble_eq_true rfl) (c_lot G (upm N 44 31 (nxS (N 44 31))) 16 (by omega)) (kIE ?_)
          refine a_istore (ls' := [(0, vR 44), (1, vI seed), (2, vI n), (3, vI w), (4, vI many), (5, vI i), (6, vI (lotS (nxS (N 44 31)) 4)), (7, vI (lotS (nxS (nxS (N 44 31))) 16))]) (kX6_decadesOf.at 39 rfl) (by decide) rfl ?_
          refine a_aload_n (kX6_decadesOf.at 40 rfl) 0 rfl ?_
          refine a_iload (kX6_decadesOf.at 41 rfl) 6 rfl ?_
          refine a_iload (kX6_decadesOf.at 42 rfl) 7 rfl ?_
          refine a_aload_n (kX6_decadesOf.at 43 rfl) 0 rfl ?_
          refine a_aload_n (kX6_decadesOf.at 44 rfl) 0 rfl ?_
          refine a_getI (x := N 44 7) (kX6_decadesOf.at 45 rfl) fg_X6_105 ii_44_7 ((rd_ni (by decide)).trans (rd_ni (by decide))) ?_
          refine AW.callV (as := [vI (N 44 7)]) (st := [vI (lotS (nxS (nxS (N 44 31))) 16), vI (lotS (nxS (N 44 31)) 4), vR 44]) (kX6_decadesOf.at 46 rfl) ml_X6_309 sv_X6_lot (k := 44) (io_44) rfl rfl ⟨Nat.le_of_ble_eq_true rfl, Nat.le_of_ble_eq_true rfl⟩ ⟨Nat.le_refl _, Nat.le_refl _⟩ rfl rfl (Nat.le_of_ble_eq_true rfl) (c_lot G (upm (upm N 44 31 (nxS (N 44 31))) 44 31 (nxS (nxS (N 44 31)))) (N 44 7) (by omega)) (kIE ?_)
          refine AW.callV (as := [vI (lotS (nxS (N 44 31)) 4), vI (lotS (nxS (nxS (N 44 31))) 16), vI (lotS (nxS (nxS (nxS (N 44 31)))) (N 44 7))]) (st := []) (kX6_decadesOf.at 47 rfl) ml_X6_136 sv_X6_keeps (k := 44) (io_44) rfl rfl ⟨Nat.le_of_ble_eq_true rfl, Nat.le_of_ble_eq_true rfl⟩ ⟨Nat.le_refl _, Nat.le_refl _⟩ rfl rfl (Nat.le_of_ble_eq_true rfl) (c_keeps G (upm (upm (upm N 44 31 (nxS (N 44 31))) 44 31 (nxS (nxS (N 44 31)))) 44 31 (nxS (nxS (nxS (N 44 31))))) (lotS (nxS (N 44 31)) 4) (lotS (nxS (nxS (N 44 31))) 16) (lotS (nxS (nxS (nxS (N 44 31)))) (N 44 7)) (show 0 ≤ N 44 9 ∧ N 44 9 ≤ 7 by omega)) (kVE ?_)
          refine a_iinc (ls' := [(0, vR 44), (1, vI seed), (2, vI n), (3, vI w), (4, vI many), (5, vI (i + 1)), (6, vI (lotS (nxS (N 44 31)) 4)), (7, vI (lotS (nxS (nxS (N 44 31))) 16))]) (kX6_decadesOf.at 48 rfl) 5 rfl (by decide) (inr (by omega)) rfl ?_
          refine a_goto (tgt := 49) (kX6_decadesOf.at 49 rfl) (by decide) ?_
          refine AW.loc (ls' := [(0, vR 44), (1, vI seed), (2, vI n), (3, vI w), (4, vI many), (5, vI (i + 1))]) [0, 1, 2, 3, 4, 5] rfl ?_
          exact ih ((i + 1)) ((keeps (upm (upm (upm N 44 31 (nxS (N 44 31))) 44 31 (nxS (nxS (N 44 31)))) 44 31 (nxS (nxS (nxS (N 44 31))))) (lotS (nxS (N 44 31)) 4) (lotS (nxS (nxS (N 44 31))) 16) (lotS (nxS (nxS (nxS (N 44 31)))) (N 44 7)))) (by omega) (by omega) (by rw [forR_succ hk0, ← e_N] <;> (clear ih kk e_N; unfold dcF; rfl)) (by omega)
  exact key ((n) - (0) + 1 : Int).toNat (0) M (Int.le_refl _) hlohi (forR_nil (Int.le_refl _)).symm  (by omega)
theorem td_all (M : Mem) : (∀ c : Nat, c ≠ 62 → forR 0 24 tdF M c = M c) ∧ ∀ j, 0 ≤ j → j < 24 → forR 0 24 tdF M 62 j = M 51 j := by
  refine forR_inv (lo := 0) (hi := 24) (fun i (K : Mem) => (∀ c : Nat, c ≠ 62 → K c = M c) ∧ ∀ j, 0 ≤ j → j < i → K 62 j = M 51 j) (by omega) ⟨fun _ _ => rfl, fun j a b => by omega⟩ ?_
  intro i K h1 h2 hK
  unfold tdF
  refine ⟨fun c hc => by rw [upm_ne hc]; exact hK.1 c hc, fun j a b => ?_⟩
  by_cases e : j = i
  · subst e; rw [rd_eq, hK.1 51 (by decide)]
  · rw [rd_ni e]; exact hK.2 j a (by omega)
theorem tb_all (M : Mem) : (∀ c : Nat, c ≠ 51 → forR 0 24 tbF M c = M c) ∧ ∀ j, forR 0 24 tbF M 51 j = if 0 ≤ j ∧ j < 24 then M 62 j else M 51 j := by
  refine forR_inv (lo := 0) (hi := 24) (fun i (K : Mem) => (∀ c : Nat, c ≠ 51 → K c = M c) ∧ ∀ j, K 51 j = if 0 ≤ j ∧ j < i then M 62 j else M 51 j) (by omega) ⟨fun _ _ => rfl, fun j => by rw [if_neg (by omega)]⟩ ?_
  intro i K h1 h2 hK
  unfold tbF
  refine ⟨fun c hc => by rw [upm_ne hc]; exact hK.1 c hc, fun j => ?_⟩
  by_cases e : j = i
  · subst e; rw [rd_eq, hK.1 62 (by decide), if_pos (by omega)]
  · rw [rd_ni e, hK.2 j]
    by_cases h : 0 ≤ j ∧ j < i
    · rw [if_pos h, if_pos (by omega)]
    · rw [if_neg h, if_neg (by omega)]
theorem dc_out (M : Mem) (n : Int) (hn : 0 ≤ n ∧ n ≤ 8) (h9 : M 44 9 = 0) (j : Int) (hj : ¬ (0 ≤ j ∧ j < 24)) : forR 0 n dcF M 51 j = M 51 j := by
  refine (forR_inv (lo := 0) (hi := n) (fun i (K : Mem) => K 51 j = M 51 j ∧ K 44 9 = i) hn.1 ⟨rfl, h9⟩ (fun i K a b hK => ⟨?_, by rw [dcF_9, hK.2]⟩)).1
  unfold dcF keeps
  have e9 : upm (upm (upm K 44 31 (nxS (K 44 31))) 44 31 (nxS (nxS (K 44 31)))) 44 31 (nxS (nxS (nxS (K 44 31)))) 44 9 = i := by
    rw [rd_ni (by decide), rd_ni (by decide), rd_ni (by decide)]; exact hK.2
  rw [e9, rd_ne (by decide), rd_ni (by omega), rd_ni (by omega), rd_ni (by omega), rd_ne (by decide), rd_ne (by decide), rd_ne (by decide)]
  exact hK.1
/-- two memories alike but for what was told -/
theorem dc_rel (M N : Mem) (n : Int) (hn : 0 ≤ n) (h : ∀ c : Nat, c ≠ 62 → N c = M c) : ∀ c : Nat, c ≠ 62 → forR 0 n dcF N c = forR 0 n dcF M c := by
  refine forR_rel (fun _ (x y : Mem) => ∀ c : Nat, c ≠ 62 → y c = x c) hn h (fun i x y a b hxy => ?_)
  intro c hc
  unfold dcF keeps
  have e44 := hxy 44 (by decide)
  have e51 := hxy 51 (by decide)
  by_cases h1 : c = 44
  · subst h1
    simp only [upm_same, upm_ne (show (44 : Nat) ≠ 51 by decide), e44]
  · rw [upm_ne h1, upm_ne h1]
    by_cases h2 : c = 51
    · subst h2
      simp only [upm_same, upm_ne (show (51 : Nat) ≠ 44 by decide), e44, e51]
    · rw [upm_ne h2, upm_ne h2, upm_ne h2, upm_ne h1, upm_ne h1, upm_ne h1, upm_ne h2, upm_ne h2, upm_ne h2, upm_ne h1, upm_ne h1, upm_ne h1]
      exact hxy c hc
theorem sumBy_fr {M N : Mem} (h7 : N 44 7 = M 44 7) (h54 : N 54 = M 54) (h24 : N 44 24 = M 44 24) (h25 : N 44 25 = M 44 25) (w : Int) : sumBy N w = sumBy M w := by
  unfold sumBy movesNow
  rw [h7, h54, h24, h25]
/-- what decadesOf has at the start of its course -/
noncomputable def decD (M : Mem) (seed n : Int) : Mem := forR 0 (if 0 < M 44 7 then n else 0) dcF (upm (upm (forR 0 24 tdF M) 44 31 seed) 44 9 0)
theorem decD_all {M : Mem} {seed n : Int} (hn : 0 ≤ n ∧ n ≤ 8) : (∀ c : Nat, c ≠ 62 → decD M seed n c = decN M seed n c) ∧ (∀ (c : Nat) (j : Int), c ≠ 51 → c ≠ 62 → ¬ (c = 44 ∧ (j = 9 ∨ j = 31)) → decD M seed n c j = M c j) ∧ (∀ j, 0 ≤ j → j < 24 → decD M seed n 62 j = M 51 j) ∧ (∀ j, ¬ (0 ≤ j ∧ j < 24) → decD M seed n 51 j = M 51 j) ∧ (0 ≤ decD M seed n 44 9 ∧ decD M seed n 44 9 ≤ 8) := by
  have hn' : 0 ≤ (if 0 < M 44 7 then n else 0) ∧ (if 0 < M 44 7 then n else 0) ≤ 8 := by split <;> omega
  have ht := td_all M
  have hfr := dec_fr (upm (upm (forR 0 24 tdF M) 44 31 seed) 44 9 0) _ hn'.1
  have e9 : upm (upm (forR 0 24 tdF M) 44 31 seed) 44 9 0 44 9 = 0 := rd_eq
  refine ⟨?_, fun c j h1 h2 h3 => ?_, fun j a b => ?_, fun j hj => ?_, ?_⟩
  · refine dc_rel _ _ _ hn'.1 (fun c hc => ?_)
    by_cases e : c = 44
    · subst e; rw [upm_same, upm_same, upm_same, upm_same, ht.1 44 (by decide)]
    · rw [upm_ne e, upm_ne e, upm_ne e, upm_ne e, ht.1 c hc]
  · unfold decD
    rw [hfr.1 c j h1 h3]
    by_cases e : c = 44
    · subst e; rw [rd_ni (by omega), rd_ni (by omega), ht.1 44 (by decide)]
    · rw [rd_ne e, rd_ne e, ht.1 c h2]
  · unfold decD
    rw [hfr.1 62 j (by decide) (by omega), rd_ne (by decide), rd_ne (by decide)]
    exact ht.2 j a b
  · unfold decD
    rw [dc_out _ _ hn' e9 j hj, rd_ne (by decide), rd_ne (by decide), ht.1 51 (by decide)]
  · unfold decD
    rw [hfr.2, e9]
    omega
theorem decD_LI {M : Mem} {seed n : Int} (hn : 0 ≤ n ∧ n ≤ 8) (hL : LI M) : LI (decD M seed n) := by
  have h := decD_all (M := M) (seed := seed) hn
  have e7 := h.2.1 44 7 (by decide) (by decide) (by omega)
  refine ⟨⟨by rw [e7]; exact hL.1.1, fun k a b => ?_⟩, h.2.2.2.2⟩
  rw [h.2.1 50 _ (by decide) (by decide) (by omega)]
  exact hL.1.2 k a (by rw [e7] at b; exact b)
theorem decD_sum {M : Mem} {seed n : Int} (hn : 0 ≤ n ∧ n ≤ 8) (hL : LI M) (w : Int) : sumBy (lives (decD M seed n)) w = decadesS M seed n w := by
  have h := (decD_all (M := M) (seed := seed) hn).1
  have hL' := decD_LI (seed := seed) hn hL
  unfold decadesS
  have e44 := h 44 (by decide)
  have e50 := h 50 (by decide)
  have e51 := h 51 (by decide)
  have hi : InE (decN M seed n) (decD M seed n) := ⟨⟨by rw [e44], by rw [e44], by rw [e44], by rw [e44], Or.inr ⟨by rw [e44], Or.inr (by rw [e44])⟩⟩, fun j _ _ => by rw [e50], fun j _ _ => by rw [e51]⟩
  exact sumBy_E (lives_E hi (by rw [← e44]; exact hL'.1.1)) w
/-- behind the course everything is as it was told -/
theorem dec_back {M : Mem} {seed n : Int} (hn : 0 ≤ n ∧ n ≤ 8) : Fq M (upm (forR 0 24 tbF (lives (decD M seed n))) 44 9 (M 44 9)) := by
  have h := decD_all (M := M) (seed := seed) hn
  have hF := Fr_lives (decD M seed n)
  have ht := tb_all (lives (decD M seed n))
  intro c j a b d e
  by_cases e1 : c = 44
  · subst e1
    by_cases e2 : j = 9
    · subst e2; rw [rd_eq]
    · rw [rd_ni e2, ht.1 44 (by decide), hF 44 j (by omega) (by omega), h.2.1 44 j (by decide) (by decide) (by omega)]
  · rw [rd_ne e1]
    by_cases e2 : c = 51
    · subst e2
      rw [ht.2 j]
      by_cases hj : 0 ≤ j ∧ j < 24
      · rw [if_pos hj, hF 62 j (by omega) (by omega), h.2.2.1 j hj.1 hj.2]
      · rw [if_neg hj, hF 51 j (by omega) (by omega), h.2.2.2.1 j hj]
    · rw [ht.1 c e2, hF c j a (by omega), h.2.1 c j e2 d (by omega)]
theorem a_dec99 (G : GT) (M : Mem) (seed n w i : Int) (hB : BI M) (hn : 0 ≤ n ∧ n ≤ 8) : AW G RX6 cX6_decadesOf 8 (some .int) (XM G 5 (pI fun r M' => r = decadesS M seed n w ∧ Fq M M')) 99 [(0, vR 44), (1, vI seed), (2, vI n), (3, vI w), (4, vI (M 44 9)), (5, vI i)] [] (decD M seed n) := by
  have hL := decD_LI (seed := seed) hn hB.1
  have ht := tb_all (lives (decD M seed n))
  have hg : RG (upm (forR 0 24 tbF (lives (decD M seed n))) 44 9 (M 44 9)) 256 := by
    have := lives_RG hL.1
    refine ⟨?_, ?_, ?_, ?_⟩
    · rw [rd_ni (by decide), ht.1 44 (by decide)]; exact this.1
    · rw [rd_ni (by decide), upm_ne (by decide), upm_ne (by decide), upm_ne (by decide), ht.1 44 (by decide), ht.1 52 (by decide), ht.1 54 (by decide), ht.1 55 (by decide)]; exact this.2.1
    · rw [rd_ni (by decide), ht.1 44 (by decide)]; exact this.2.2.1
    · rw [rd_ni (by decide), ht.1 44 (by decide)]; exact this.2.2.2
  have hs := sumBy_fr (M := lives (decD M seed n)) (N := upm (forR 0 24 tbF (lives (decD M seed n))) 44 9 (M 44 9)) (by rw [rd_ni (by decide), ht.1 44 (by decide)]) (by rw [upm_ne (by decide), ht.1 54 (by decide)]) (by rw [rd_ni (by decide), ht.1 44 (by decide)]) (by rw [rd_ni (by decide), ht.1 44 (by decide)]) w
  refine a_aload_n (kX6_decadesOf.at 50 rfl) 0 rfl ?_
  refine AW.callV (as := []) (st := []) (kX6_decadesOf.at 51 rfl) ml_X6_200 sv_X6_lives (k := 44) (io_44) rfl rfl ⟨Nat.le_of_ble_eq_true rfl, Nat.le_of_ble_eq_true rfl⟩ ⟨Nat.le_refl _, Nat.le_refl _⟩ rfl rfl (Nat.le_of_ble_eq_true rfl) (c_lives G (decD M seed n) hL.1 hL.2) (kVE ?_)
  refine a_iconst (kX6_decadesOf.at 52 rfl) rfl ?_
  refine a_istore (ls' := [(0, vR 44), (1, vI seed), (2, vI n), (3, vI w), (4, vI (M 44 9)), (5, vI 0)]) (kX6_decadesOf.at 53 rfl) (by decide) rfl ?_
  refine l_dec3 G (lives (decD M seed n)) seed n w (M 44 9) _ (by omega) ?_
  show AW _ _ _ _ _ _ 133 [(0, vR 44), (1, vI seed), (2, vI n), (3, vI w), (4, vI (M 44 9)), (5, vI 24)] [] (forR 0 24 tbF (lives (decD M seed n)))
  refine a_aload_n (kX6_decadesOf.at 67 rfl) 0 rfl ?_
  refine a_iload (kX6_decadesOf.at 68 rfl) 4 rfl ?_
  refine a_putI (j := 9) (kX6_decadesOf.at 69 rfl) fp_X6_128 (ii_44_9) rfl ?_
  refine a_aload_n (kX6_decadesOf.at 70 rfl) 0 rfl ?_
  refine a_iload_n (kX6_decadesOf.at 71 rfl) 3 rfl ?_
  refine AW.callV (as := [vI w]) (st := []) (kX6_decadesOf.at 72 rfl) ml_X6_231 sv_X6_sumBy (k := 44) (io_44) rfl rfl ⟨Nat.le_of_ble_eq_true rfl, Nat.le_of_ble_eq_true rfl⟩ ⟨Nat.le_refl _, Nat.le_refl _⟩ rfl rfl (Nat.le_of_ble_eq_true rfl) (c_sumBy G (upm (forR 0 24 tbF (lives (decD M seed n))) 44 9 (M 44 9)) w hg) (kIE ?_)
  exact a_iret (kX6_decadesOf.at 73 rfl) (⟨hs.trans (decD_sum hn hB.1 w), dec_back hn⟩)
theorem c_decadesOf (G : GT) (M : Mem) (seed n w : Int) (hB : BI M) (hn : 0 ≤ n ∧ n ≤ 8) : AM G yX6_decadesOf cX6_decadesOf 8 (some .int) 5 M [vR 44, vI seed, vI n, vI w] (pI fun r M' => r = decadesS M seed n w ∧ Fq M M') := by
  refine AM.mk (own := RX6) rfl sv_X6_decadesOf.1.2.2.2.2.2 (Nat.le_of_ble_eq_true rfl) rfl ?_
  have hp := hB.1.1.1
  have ht := td_all M
  have e7 : upm (upm (forR 0 24 tdF M) 44 31 seed) 44 9 0 44 7 = M 44 7 := by rw [rd_ni (by decide), rd_ni (by decide), ht.1 44 (by decide)]
  have J : ∀ i, AW G RX6 cX6_decadesOf 8 (some .int) (XM G 5 (pI fun r M' => r = decadesS M seed n w ∧ Fq M M')) 99 [(0, vR 44), (1, vI seed), (2, vI n), (3, vI w), (4, vI (M 44 9)), (5, vI i)] [] (decD M seed n) := fun i => a_dec99 G M seed n w i hB hn
  have JJ : AW G RX6 cX6_decadesOf 8 (some .int) (XM G 5 (pI fun r M' => r = decadesS M seed n w ∧ Fq M M')) 49 [(0, vR 44), (1, vI seed), (2, vI n), (3, vI w), (4, vI (M 44 9)), (5, vI 0)] [] (upm (upm (forR 0 24 tdF M) 44 31 seed) 44 9 0) := by
    by_cases h0 : 0 < M 44 7
    · refine l_dec2 G _ seed n w (M 44 9) _ hn (by rw [e7]; omega) rd_eq hn.1 ?_
      have := J n
      unfold decD at this
      rw [if_pos h0] at this
      exact this
    · have J0 := J 0
      unfold decD at J0
      rw [if_neg h0, forR_nil (Int.le_refl 0)] at J0
      refine a_iload (kX6_decadesOf.at 26 rfl) 5 rfl ?_
      refine a_iload_n (kX6_decadesOf.at 27 rfl) 2 rfl ?_
      refine a_icmpge (tgt := 99) (kX6_decadesOf.at 28 rfl) (by decide) (fun h52 => ?_) (fun h52 => ?_)
      · exact J0
      · refine a_aload_n (kX6_decadesOf.at 29 rfl) 0 rfl ?_
        refine a_getI (x := (upm (upm (forR 0 24 tdF M) 44 31 seed) 44 9 0) 44 7) (kX6_decadesOf.at 30 rfl) fg_X6_105 ii_44_7 (rfl) ?_
        refine a_ifle (tgt := 99) (kX6_decadesOf.at 31 rfl) (by decide) (fun h59 => ?_) (fun h59 => ?_)
        · exact J0
        · exfalso; omega
  refine a_aload_n (kX6_decadesOf.at 0 rfl) 0 rfl ?_
  refine a_getI (x := M 44 9) (kX6_decadesOf.at 1 rfl) fg_X6_128 ii_44_9 (rfl) ?_
  refine a_istore (ls' := [(0, vR 44), (1, vI seed), (2, vI n), (3, vI w), (4, vI (M 44 9))]) (kX6_decadesOf.at 2 rfl) (by decide) rfl ?_
  refine a_iconst (kX6_decadesOf.at 3 rfl) rfl ?_
  refine a_istore (ls' := [(0, vR 44), (1, vI seed), (2, vI n), (3, vI w), (4, vI (M 44 9)), (5, vI 0)]) (kX6_decadesOf.at 4 rfl) (by decide) rfl ?_
  refine l_dec1 G M seed n w (M 44 9) _ (by omega) ?_
  show AW _ _ _ _ _ _ 36 [(0, vR 44), (1, vI seed), (2, vI n), (3, vI w), (4, vI (M 44 9)), (5, vI 24)] [] (forR 0 24 tdF M)
  refine a_aload_n (kX6_decadesOf.at 18 rfl) 0 rfl ?_
  refine a_iload_n (kX6_decadesOf.at 19 rfl) 1 rfl ?_
  refine a_putI (j := 31) (kX6_decadesOf.at 20 rfl) fp_X6_306 (ii_44_31) rfl ?_
  refine a_aload_n (kX6_decadesOf.at 21 rfl) 0 rfl ?_
  refine a_iconst (kX6_decadesOf.at 22 rfl) rfl ?_
  refine a_putI (j := 9) (kX6_decadesOf.at 23 rfl) fp_X6_128 (ii_44_9) rfl ?_
  refine a_iconst (kX6_decadesOf.at 24 rfl) rfl ?_
  refine a_istore (ls' := [(0, vR 44), (1, vI seed), (2, vI n), (3, vI w), (4, vI (M 44 9)), (5, vI 0)]) (kX6_decadesOf.at 25 rfl) (by decide) rfl ?_
  exact JJ
