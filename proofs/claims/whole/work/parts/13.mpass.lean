/-! ===== the reference: a quarter passes, sixteen of them ===== -/
noncomputable def pEv (q : Int) : Int → Mem → Mem := fun i N => if N 51 (3 * i + 1) = q ∧ ¬ isIn (N 44 11) i = true then happens N (N 51 (3 * i)) (N 51 (3 * i + 2)) else N
noncomputable def pCm : Int → Mem → Mem := fun k N => if N 50 (3 * k) = 1 then comes N k else N
noncomputable def pKn (q : Int) : Int → Mem → Mem := fun k N => if N 44 23 = 0 then knocks N q k else N
noncomputable def pRc (q : Int) : Int → Mem → Mem := fun k N => upm (upm (upm (upm N 56 (8 * q + k) (N 52 k)) 57 (8 * q + k) (N 53 k)) 58 (8 * q + k) (N 54 k)) 59 (8 * q + k) (N 55 k)
noncomputable def pass1 (M : Mem) (q : Int) : Mem := forR 0 (M 44 9) (pEv q) (upm M 44 23 0)
noncomputable def pass2 (M : Mem) (q : Int) : Mem := if M 44 12 = q then happens (pass1 M q) (M 44 13) (M 44 14) else pass1 M q
noncomputable def pass3 (M : Mem) (q : Int) : Mem := forR 0 (M 44 7) pCm (pass2 M q)
noncomputable def pass4 (M : Mem) (q : Int) : Mem := forR 0 (M 44 7) (pKn q) (pass3 M q)
noncomputable def passes (M : Mem) (q : Int) : Mem := forR 0 (M 44 7) (pRc q) (pass4 M q)
theorem Fr.for {M N : Mem} {lo hi : Int} {f : Int → Mem → Mem} (h : Fr M N) (hf : ∀ k K, Fr K (f k K)) : Fr M (forR lo hi f N) := by
  by_cases hl : lo ≤ hi
  · exact forR_inv (fun _ K => Fr M K) hl h (fun k K _ _ hK => hK.trans (hf k K))
  · rw [forR_nil (by omega)]; exact h
theorem Fr_pEv (q k : Int) (K : Mem) : Fr K (pEv q k K) := by
  unfold pEv
  split
  · exact Fr_happens _ _ _
  · exact Fr.refl K
theorem Fr_pCm (k : Int) (K : Mem) : Fr K (pCm k K) := by
  unfold pCm
  split
  · exact Fr_comes _ _
  · exact Fr.refl K
theorem Fr_pKn (q k : Int) (K : Mem) : Fr K (pKn q k K) := by
  unfold pKn
  split
  · exact Fr_knocks _ _ _
  · exact Fr.refl K
theorem Fr_pRc (q k : Int) (K : Mem) : Fr K (pRc q k K) := by
  unfold pRc
  exact ((((Fr.refl K).up (by omega)).up (by omega)).up (by omega)).up (by omega)
theorem Fr_pass1 (M : Mem) (q : Int) : Fr M (pass1 M q) := Fr.for ((Fr.refl M).up (by omega)) (Fr_pEv q)
theorem Fr_pass2 (M : Mem) (q : Int) : Fr M (pass2 M q) := by
  unfold pass2
  split
  · exact (Fr_pass1 M q).trans (Fr_happens _ _ _)
  · exact Fr_pass1 M q
theorem Fr_pass3 (M : Mem) (q : Int) : Fr M (pass3 M q) := Fr.for (Fr_pass2 M q) Fr_pCm
theorem Fr_pass4 (M : Mem) (q : Int) : Fr M (pass4 M q) := Fr.for (Fr_pass3 M q) (Fr_pKn q)
theorem Fr_passes (M : Mem) (q : Int) : Fr M (passes M q) := Fr.for (Fr_pass4 M q) (Fr_pRc q)
theorem Fr.people {M N : Mem} (h : Fr M N) : N 44 7 = M 44 7 := h 44 7 (by omega) (by omega)
theorem RG_pass1 {M : Mem} {B : Int} (h : RG M B) (q : Int) : RG (pass1 M q) B := by
  unfold pass1
  by_cases hl : 0 ≤ M 44 9
  · refine forR_inv (fun _ K => RG K B) hl (show RG (upm M 44 23 0) B from h) (fun k K _ _ hK => ?_)
    unfold pEv
    split
    · exact RG_happens hK _ _
    · exact hK
  · rw [forR_nil (by omega)]; exact h
theorem RG_pass2 {M : Mem} {B : Int} (h : RG M B) (q : Int) : RG (pass2 M q) B := by
  unfold pass2
  split
  · exact RG_happens (RG_pass1 h q) _ _
  · exact RG_pass1 h q
theorem RG_pass3k {M : Mem} {B : Int} (h : RG M B) (q k : Int) (hk : 0 ≤ k ∧ k ≤ M 44 7) : RG (forR 0 k pCm (pass2 M q)) (B + k) := by
  refine (forR_inv (fun j K => RG K (B + j) ∧ K 44 7 = M 44 7) hk.1 ⟨(RG_pass2 h q).mono (by omega), (Fr_pass2 M q).people⟩ (fun j K h1 h2 hK => ⟨?_, (Fr_pCm j K).people.trans hK.2⟩)).1
  unfold pCm
  split
  · exact (RG_comes hK.1 j (by rw [hK.2]; omega)).mono (by omega)
  · exact hK.1.mono (by omega)
theorem RG_pass4k {M : Mem} {B : Int} (h : RG M B) (q k : Int) (hk : 0 ≤ k ∧ k ≤ M 44 7) : RG (forR 0 k (pKn q) (pass3 M q)) (B + 8 + k) := by
  have hp := h.1
  refine (forR_inv (fun j K => RG K (B + 8 + j) ∧ K 44 7 = M 44 7) hk.1 ⟨(RG_pass3k h q (M 44 7) (by omega)).mono (by omega), (Fr_pass3 M q).people⟩ (fun j K h1 h2 hK => ⟨?_, (Fr_pKn q j K).people.trans hK.2⟩)).1
  unfold pKn
  split
  · exact (RG_knocks hK.1 q j (by rw [hK.2]; omega)).mono (by omega)
  · exact hK.1.mono (by omega)
theorem RG_passes {M : Mem} {B : Int} (h : RG M B) (q : Int) : RG (passes M q) (B + 16) := by
  have hp := h.1
  have h4 : RG (pass4 M q) (B + 16) := (RG_pass4k h q (M 44 7) (by omega)).mono (by omega)
  unfold passes
  exact forR_inv (fun _ K => RG K (B + 16)) hp.1 h4 (fun j K h1 h2 hK => hK)
set_option maxHeartbeats 4000000 in
set_option maxRecDepth 100000 in
theorem l_passes1 (G : GT) (M : Mem) (q : Int) (P : Option AV → Mem → Prop) (hp : 0 ≤ M 44 7 ∧ M 44 7 ≤ 8) (he : 0 ≤ M 44 9 ∧ M 44 9 ≤ 8) (hlohi : (0 : Int) ≤ (M 44 9)) (kk : (Fr M (forR 0 (M 44 9) (pEv q) (upm M 44 23 0))) → AW G RX6 cX6_passes 3 none (XM G 3 P) 68 [(0, vR 44), (1, vI q), (2, vI (M 44 9))] [] (forR 0 (M 44 9) (pEv q) (upm M 44 23 0))) : AW G RX6 cX6_passes 3 none (XM G 3 P) 7 [(0, vR 44), (1, vI q), (2, vI 0)] [] (upm M 44 23 0) := by
  have key : ∀ (nn : Nat) (k : Int) (N : Mem), (0 : Int) ≤ k → k ≤ (M 44 9) → N = forR 0 k (pEv q) (upm M 44 23 0) → (Fr M N) → (M 44 9) - k < nn → AW G RX6 cX6_passes 3 none (XM G 3 P) 7 [(0, vR 44), (1, vI q), (2, vI k)] [] N := by
    intro nn
    induction nn with
    | zero => intro k N hk0 hk1 e_N hF hn; omega
    | succ nn ih =>
      intro k N hk0 hk1 e_N hF hn
      have hN7 := hF.people
      have hN9 := hF 44 9 (by omega) (by omega)
      refine a_iload_n (kX6_passes.at 5 rfl) 2 rfl ?_
      refine a_aload_n (kX6_passes.at 6 rfl) 0 rfl ?_
      refine a_getI (x := N 44 9) (kX6_passes.at 7 rfl) fg_X6_128 ii_44_9 (rfl) ?_
      refine a_icmpge (tgt := 68) (kX6_passes.at 8 rfl) (by decide) (fun h12 => ?_) (fun h12 => ?_)
      · obtain rfl : k = M 44 9 := by omega
        subst e_N
        exact kk hF
      · refine a_aload_n (kX6_passes.at 9 rfl) 0 rfl ?_
        refine a_getR (kX6_passes.at 10 rfl) fg_X6_28 ir_44_10 ?_
        refine a_iconst (kX6_passes.at 11 rfl) rfl ?_
        refine a_iload_n (kX6_passes.at 12 rfl) 2 rfl ?_
        refine a_imul (kX6_passes.at 13 rfl) (inr (by omega)) ?_
        refine a_iconst (kX6_passes.at 14 rfl) rfl ?_
        refine a_iadd (kX6_passes.at 15 rfl) (inr (by omega)) ?_
        refine a_iald (x := N 51 ((3 * k) + 1)) (kX6_passes.at 16 rfl) (ia_51) (by omega) (rfl) ?_
        refine a_iload_n (kX6_passes.at 17 rfl) 1 rfl ?_
        refine a_icmpne (tgt := 62) (kX6_passes.at 18 rfl) (by decide) (fun h26 => ?_) (fun h26 => ?_)
        · refine a_iinc (ls' := [(0, vR 44), (1, vI q), (2, vI (k + 1))]) (kX6_passes.at 40 rfl) 2 rfl (by decide) (inr (by omega)) rfl ?_
          refine a_goto (tgt := 7) (kX6_passes.at 41 rfl) (by decide) ?_
          exact ih ((k + 1)) (N) (by omega) (by omega) (by rw [forR_succ hk0, ← e_N] <;> (clear ih kk e_N; unfold pEv; simp [*])) (by first | exact hF | exact hF.trans (Fr_happens _ _ _)) (by omega)
        · refine a_aload_n (kX6_passes.at 19 rfl) 0 rfl ?_
          refine a_getI (x := N 44 11) (kX6_passes.at 20 rfl) fg_X6_174 ii_44_11 (rfl) ?_
          refine a_iload_n (kX6_passes.at 21 rfl) 2 rfl ?_
          refine AW.callS (as := [vI (N 44 11), vI k]) (st := []) (kX6_passes.at 22 rfl) ml_X6_177 ss_X6_isIn ⟨Nat.le_of_ble_eq_true rfl, Nat.le_of_ble_eq_true rfl⟩ ⟨Nat.le_refl _, Nat.le_refl _⟩ rfl rfl (Nat.le_of_ble_eq_true rfl) (c_isIn G N (N 44 11) k) (kIE ?_)
          refine a_ifneB (tgt := 62) (kX6_passes.at 23 rfl) (by decide) (fun h37 => ?_) (fun h37 => ?_)
          · refine a_iinc (ls' := [(0, vR 44), (1, vI q), (2, vI (k + 1))]) (kX6_passes.at 40 rfl) 2 rfl (by decide) (inr (by omega)) rfl ?_
            refine a_goto (tgt := 7) (kX6_passes.at 41 rfl) (by decide) ?_
            exact ih ((k + 1)) (N) (by omega) (by omega) (by rw [forR_succ hk0, ← e_N] <;> (clear ih kk e_N; unfold pEv; simp [*])) (by first | exact hF | exact hF.trans (Fr_happens _ _ _)) (by omega)
          · refine a_aload_n (kX6_passes.at 24 rfl) 0 rfl ?_
            refine a_aload_n (kX6_passes.at 25 rfl) 0 rfl ?_
            refine a_getR (kX6_passes.at 26 rfl) fg_X6_28 ir_44_10 ?_
            refine a_iconst (kX6_passes.at 27 rfl) rfl ?_
            refine a_iload_n (kX6_passes.at 28 rfl) 2 rfl ?_
            refine a_imul (kX6_passes.at 29 rfl) (inr (by omega)) ?_
            refine a_iald (x := N 51 (3 * k)) (kX6_passes.at 30 rfl) (ia_51) (by omega) (rfl) ?_
            refine a_aload_n (kX6_passes.at 31 rfl) 0 rfl ?_
            refine a_getR (kX6_passes.at 32 rfl) fg_X6_28 ir_44_10 ?_
            refine a_iconst (kX6_passes.at 33 rfl) rfl ?_
            refine a_iload_n (kX6_passes.at 34 rfl) 2 rfl ?_
            refine a_imul (kX6_passes.at 35 rfl) (inr (by omega)) ?_
            refine a_iconst (kX6_passes.at 36 rfl) rfl ?_
            refine a_iadd (kX6_passes.at 37 rfl) (inr (by omega)) ?_
            refine a_iald (x := N 51 ((3 * k) + 2)) (kX6_passes.at 38 rfl) (ia_51) (by omega) (rfl) ?_
            refine AW.callV (as := [vI (N 51 (3 * k)), vI (N 51 ((3 * k) + 2))]) (st := []) (kX6_passes.at 39 rfl) ml_X6_180 sv_X6_happens (k := 44) (io_44) rfl rfl ⟨Nat.le_of_ble_eq_true rfl, Nat.le_of_ble_eq_true rfl⟩ ⟨Nat.le_refl _, Nat.le_refl _⟩ rfl rfl (Nat.le_of_ble_eq_true rfl) (c_happens G N (N 51 (3 * k)) (N 51 ((3 * k) + 2)) (by omega)) (kVE ?_)
            refine a_iinc (ls' := [(0, vR 44), (1, vI q), (2, vI (k + 1))]) (kX6_passes.at 40 rfl) 2 rfl (by decide) (inr (by omega)) rfl ?_
            refine a_goto (tgt := 7) (kX6_passes.at 41 rfl) (by decide) ?_
            exact ih ((k + 1)) ((happens N (N 51 (3 * k)) (N 51 ((3 * k) + 2)))) (by omega) (by omega) (by rw [forR_succ hk0, ← e_N] <;> (clear ih kk e_N; unfold pEv; simp [*])) (by first | exact hF | exact hF.trans (Fr_happens _ _ _)) (by omega)
  exact key ((M 44 9) - (0) + 1 : Int).toNat (0) (upm M 44 23 0) (Int.le_refl _) hlohi (forR_nil (Int.le_refl _)).symm ((Fr.refl M).up (by omega)) (by omega)
set_option maxHeartbeats 4000000 in
set_option maxRecDepth 100000 in
theorem l_passes2 (G : GT) (M : Mem) (q B : Int) (P : Option AV → Mem → Prop) (hg : RG M B) (hB : B ≤ 10000) (hlohi : (0 : Int) ≤ (M 44 7)) (kk : AW G RX6 cX6_passes 3 none (XM G 3 P) 121 [(0, vR 44), (1, vI q), (2, vI (M 44 7))] [] (forR 0 (M 44 7) pCm (pass2 M q))) : AW G RX6 cX6_passes 3 none (XM G 3 P) 90 [(0, vR 44), (1, vI q), (2, vI 0)] [] (pass2 M q) := by
  have key : ∀ (nn : Nat) (k : Int) (N : Mem), (0 : Int) ≤ k → k ≤ (M 44 7) → N = forR 0 k pCm (pass2 M q) → (M 44 7) - k < nn → AW G RX6 cX6_passes 3 none (XM G 3 P) 90 [(0, vR 44), (1, vI q), (2, vI k)] [] N := by
    intro nn
    induction nn with
    | zero => intro k N hk0 hk1 e_N  hn; omega
    | succ nn ih =>
      intro k N hk0 hk1 e_N  hn
      have hp := hg.1
      have hF : Fr M N := e_N ▸ Fr.for (Fr_pass2 M q) Fr_pCm
      have hN7 := hF.people
      have hGN : RG N (B + k) := e_N ▸ RG_pass3k hg q k (by omega)
      refine a_iload_n (kX6_passes.at 54 rfl) 2 rfl ?_
      refine a_aload_n (kX6_passes.at 55 rfl) 0 rfl ?_
      refine a_getI (x := N 44 7) (kX6_passes.at 56 rfl) fg_X6_105 ii_44_7 (rfl) ?_
      refine a_icmpge (tgt := 121) (kX6_passes.at 57 rfl) (by decide) (fun h95 => ?_) (fun h95 => ?_)
      · obtain rfl : k = M 44 7 := by omega
        subst e_N
        exact kk 
      · refine a_aload_n (kX6_passes.at 58 rfl) 0 rfl ?_
        refine a_getR (kX6_passes.at 59 rfl) fg_X6_25 ir_44_8 ?_
        refine a_iconst (kX6_passes.at 60 rfl) rfl ?_
        refine a_iload_n (kX6_passes.at 61 rfl) 2 rfl ?_
        refine a_imul (kX6_passes.at 62 rfl) (inr (by omega)) ?_
        refine a_iald (x := N 50 (3 * k)) (kX6_passes.at 63 rfl) (ia_50) (by omega) (rfl) ?_
        refine a_iconst (kX6_passes.at 64 rfl) rfl ?_
        refine a_icmpne (tgt := 115) (kX6_passes.at 65 rfl) (by decide) (fun h107 => ?_) (fun h107 => ?_)
        · refine a_iinc (ls' := [(0, vR 44), (1, vI q), (2, vI (k + 1))]) (kX6_passes.at 69 rfl) 2 rfl (by decide) (inr (by omega)) rfl ?_
          refine a_goto (tgt := 90) (kX6_passes.at 70 rfl) (by decide) ?_
          exact ih ((k + 1)) (N) (by omega) (by omega) (by rw [forR_succ hk0, ← e_N] <;> (clear ih kk e_N; unfold pCm; simp [*])) (by omega)
        · refine a_aload_n (kX6_passes.at 66 rfl) 0 rfl ?_
          refine a_iload_n (kX6_passes.at 67 rfl) 2 rfl ?_
          refine AW.callV (as := [vI k]) (st := []) (kX6_passes.at 68 rfl) ml_X6_190 sv_X6_comes (k := 44) (io_44) rfl rfl ⟨Nat.le_of_ble_eq_true rfl, Nat.le_of_ble_eq_true rfl⟩ ⟨Nat.le_refl _, Nat.le_refl _⟩ rfl rfl (Nat.le_of_ble_eq_true rfl) (c_comes G N k (B + k) hGN (by omega) (by omega)) (kVE ?_)
          refine a_iinc (ls' := [(0, vR 44), (1, vI q), (2, vI (k + 1))]) (kX6_passes.at 69 rfl) 2 rfl (by decide) (inr (by omega)) rfl ?_
          refine a_goto (tgt := 90) (kX6_passes.at 70 rfl) (by decide) ?_
          exact ih ((k + 1)) ((comes N k)) (by omega) (by omega) (by rw [forR_succ hk0, ← e_N] <;> (clear ih kk e_N; unfold pCm; simp [*])) (by omega)
  exact key ((M 44 7) - (0) + 1 : Int).toNat (0) (pass2 M q) (Int.le_refl _) hlohi (forR_nil (Int.le_refl _)).symm  (by omega)
set_option maxHeartbeats 4000000 in
set_option maxRecDepth 100000 in
theorem l_passes3 (G : GT) (M : Mem) (q B : Int) (P : Option AV → Mem → Prop) (hg : RG M B) (hB : B ≤ 10000) (hlohi : (0 : Int) ≤ (M 44 7)) (kk : AW G RX6 cX6_passes 3 none (XM G 3 P) 150 [(0, vR 44), (1, vI q), (2, vI (M 44 7))] [] (forR 0 (M 44 7) (pKn q) (pass3 M q))) : AW G RX6 cX6_passes 3 none (XM G 3 P) 123 [(0, vR 44), (1, vI q), (2, vI 0)] [] (pass3 M q) := by
  have key : ∀ (nn : Nat) (k : Int) (N : Mem), (0 : Int) ≤ k → k ≤ (M 44 7) → N = forR 0 k (pKn q) (pass3 M q) → (M 44 7) - k < nn → AW G RX6 cX6_passes 3 none (XM G 3 P) 123 [(0, vR 44), (1, vI q), (2, vI k)] [] N := by
    intro nn
    induction nn with
    | zero => intro k N hk0 hk1 e_N  hn; omega
    | succ nn ih =>
      intro k N hk0 hk1 e_N  hn
      have hp := hg.1
      have hF : Fr M N := e_N ▸ Fr.for (Fr_pass3 M q) (Fr_pKn q)
      have hN7 := hF.people
      have hGN : RG N (B + 8 + k) := e_N ▸ RG_pass4k hg q k (by omega)
      refine a_iload_n (kX6_passes.at 73 rfl) 2 rfl ?_
      refine a_aload_n (kX6_passes.at 74 rfl) 0 rfl ?_
      refine a_getI (x := N 44 7) (kX6_passes.at 75 rfl) fg_X6_105 ii_44_7 (rfl) ?_
      refine a_icmpge (tgt := 150) (kX6_passes.at 76 rfl) (by decide) (fun h128 => ?_) (fun h128 => ?_)
      · obtain rfl : k = M 44 7 := by omega
        subst e_N
        exact kk 
      · refine a_aload_n (kX6_passes.at 77 rfl) 0 rfl ?_
        refine a_getI (x := N 44 23) (kX6_passes.at 78 rfl) fg_X6_142 ii_44_23 (rfl) ?_
        refine a_ifne (tgt := 144) (kX6_passes.at 79 rfl) (by decide) (fun h135 => ?_) (fun h135 => ?_)
        · refine a_iinc (ls' := [(0, vR 44), (1, vI q), (2, vI (k + 1))]) (kX6_passes.at 84 rfl) 2 rfl (by decide) (inr (by omega)) rfl ?_
          refine a_goto (tgt := 123) (kX6_passes.at 85 rfl) (by decide) ?_
          exact ih ((k + 1)) (N) (by omega) (by omega) (by rw [forR_succ hk0, ← e_N] <;> (clear ih kk e_N; unfold pKn; simp [*])) (by omega)
        · refine a_aload_n (kX6_passes.at 80 rfl) 0 rfl ?_
          refine a_iload_n (kX6_passes.at 81 rfl) 1 rfl ?_
          refine a_iload_n (kX6_passes.at 82 rfl) 2 rfl ?_
          refine AW.callV (as := [vI q, vI k]) (st := []) (kX6_passes.at 83 rfl) ml_X6_194 sv_X6_knocks (k := 44) (io_44) rfl rfl ⟨Nat.le_of_ble_eq_true rfl, Nat.le_of_ble_eq_true rfl⟩ ⟨Nat.le_refl _, Nat.le_refl _⟩ rfl rfl (Nat.le_of_ble_eq_true rfl) (c_knocks G N q k (B + 8 + k) hGN (by omega) (by omega)) (kVE ?_)
          refine a_iinc (ls' := [(0, vR 44), (1, vI q), (2, vI (k + 1))]) (kX6_passes.at 84 rfl) 2 rfl (by decide) (inr (by omega)) rfl ?_
          refine a_goto (tgt := 123) (kX6_passes.at 85 rfl) (by decide) ?_
          exact ih ((k + 1)) ((knocks N q k)) (by omega) (by omega) (by rw [forR_succ hk0, ← e_N] <;> (clear ih kk e_N; unfold pKn; simp [*])) (by omega)
  exact key ((M 44 7) - (0) + 1 : Int).toNat (0) (pass3 M q) (Int.le_refl _) hlohi (forR_nil (Int.le_refl _)).symm  (by omega)
set_option maxHeartbeats 4000000 in
set_option maxRecDepth 100000 in
theorem l_passes4 (G : GT) (M : Mem) (q : Int) (P : Option AV → Mem → Prop) (hp : 0 ≤ M 44 7 ∧ M 44 7 ≤ 8) (hq : 0 ≤ q ∧ q ≤ 15) (hlohi : (0 : Int) ≤ (M 44 7)) (kk : AW G RX6 cX6_passes 3 none (XM G 3 P) 234 [(0, vR 44), (1, vI q), (2, vI (M 44 7))] [] (forR 0 (M 44 7) (pRc q) (pass4 M q))) : AW G RX6 cX6_passes 3 none (XM G 3 P) 152 [(0, vR 44), (1, vI q), (2, vI 0)] [] (pass4 M q) := by
  have key : ∀ (nn : Nat) (k : Int) (N : Mem), (0 : Int) ≤ k → k ≤ (M 44 7) → N = forR 0 k (pRc q) (pass4 M q) → (M 44 7) - k < nn → AW G RX6 cX6_passes 3 none (XM G 3 P) 152 [(0, vR 44), (1, vI q), (2, vI k)] [] N := by
    intro nn
    induction nn with
    | zero => intro k N hk0 hk1 e_N  hn; omega
    | succ nn ih =>
      intro k N hk0 hk1 e_N  hn
      have hF : Fr M N := e_N ▸ Fr.for (Fr_pass4 M q) (Fr_pRc q)
      have hN7 := hF.people
      refine a_iload_n (kX6_passes.at 88 rfl) 2 rfl ?_
      refine a_aload_n (kX6_passes.at 89 rfl) 0 rfl ?_
      refine a_getI (x := N 44 7) (kX6_passes.at 90 rfl) fg_X6_105 ii_44_7 (rfl) ?_
      refine a_icmpge (tgt := 234) (kX6_passes.at 91 rfl) (by decide) (fun h157 => ?_) (fun h157 => ?_)
      · obtain rfl : k = M 44 7 := by omega
        subst e_N
        exact kk 
      · refine a_aload_n (kX6_passes.at 92 rfl) 0 rfl ?_
        refine a_getR (kX6_passes.at 93 rfl) fg_X6_43 ir_44_19 ?_
        refine a_bipush (kX6_passes.at 94 rfl) rfl rfl ?_
        refine a_iload_n (kX6_passes.at 95 rfl) 1 rfl ?_
        refine a_imul (kX6_passes.at 96 rfl) (inr (by omega)) ?_
        refine a_iload_n (kX6_passes.at 97 rfl) 2 rfl ?_
        refine a_iadd (kX6_passes.at 98 rfl) (inr (by omega)) ?_
        refine a_aload_n (kX6_passes.at 99 rfl) 0 rfl ?_
        refine a_getR (kX6_passes.at 100 rfl) fg_X6_31 ir_44_15 ?_
        refine a_iload_n (kX6_passes.at 101 rfl) 2 rfl ?_
        refine a_iald (x := N 52 k) (kX6_passes.at 102 rfl) (ia_52) (by omega) (rfl) ?_
        refine a_iast (kX6_passes.at 103 rfl) (ia_56) (by omega) ?_
        refine a_aload_n (kX6_passes.at 104 rfl) 0 rfl ?_
        refine a_getR (kX6_passes.at 105 rfl) fg_X6_46 ir_44_20 ?_
        refine a_bipush (kX6_passes.at 106 rfl) rfl rfl ?_
        refine a_iload_n (kX6_passes.at 107 rfl) 1 rfl ?_
        refine a_imul (kX6_passes.at 108 rfl) (inr (by omega)) ?_
        refine a_iload_n (kX6_passes.at 109 rfl) 2 rfl ?_
        refine a_iadd (kX6_passes.at 110 rfl) (inr (by omega)) ?_
        refine a_aload_n (kX6_passes.at 111 rfl) 0 rfl ?_
        refine a_getR (kX6_passes.at 112 rfl) fg_X6_34 ir_44_16 ?_
        refine a_iload_n (kX6_passes.at 113 rfl) 2 rfl ?_
        refine a_iald (x := N 53 k) (kX6_passes.at 114 rfl) (ia_53) (by omega) (rd_ne (by decide)) ?_
        refine a_iast (kX6_passes.at 115 rfl) (ia_57) (by omega) ?_
        refine a_aload_n (kX6_passes.at 116 rfl) 0 rfl ?_
        refine a_getR (kX6_passes.at 117 rfl) fg_X6_49 ir_44_21 ?_
        refine a_bipush (kX6_passes.at 118 rfl) rfl rfl ?_
        refine a_iload_n (kX6_passes.at 119 rfl) 1 rfl ?_
        refine a_imul (kX6_passes.at 120 rfl) (inr (by omega)) ?_
        refine a_iload_n (kX6_passes.at 121 rfl) 2 rfl ?_
        refine a_iadd (kX6_passes.at 122 rfl) (inr (by omega)) ?_
        refine a_aload_n (kX6_passes.at 123 rfl) 0 rfl ?_
        refine a_getR (kX6_passes.at 124 rfl) fg_X6_37 ir_44_17 ?_
        refine a_iload_n (kX6_passes.at 125 rfl) 2 rfl ?_
        refine a_iald (x := N 54 k) (kX6_passes.at 126 rfl) (ia_54) (by omega) ((rd_ne (by decide)).trans (rd_ne (by decide))) ?_
        refine a_iast (kX6_passes.at 127 rfl) (ia_58) (by omega) ?_
        refine a_aload_n (kX6_passes.at 128 rfl) 0 rfl ?_
        refine a_getR (kX6_passes.at 129 rfl) fg_X6_52 ir_44_22 ?_
        refine a_bipush (kX6_passes.at 130 rfl) rfl rfl ?_
        refine a_iload_n (kX6_passes.at 131 rfl) 1 rfl ?_
        refine a_imul (kX6_passes.at 132 rfl) (inr (by omega)) ?_
        refine a_iload_n (kX6_passes.at 133 rfl) 2 rfl ?_
        refine a_iadd (kX6_passes.at 134 rfl) (inr (by omega)) ?_
        refine a_aload_n (kX6_passes.at 135 rfl) 0 rfl ?_
        refine a_getR (kX6_passes.at 136 rfl) fg_X6_40 ir_44_18 ?_
        refine a_iload_n (kX6_passes.at 137 rfl) 2 rfl ?_
        refine a_iald (x := N 55 k) (kX6_passes.at 138 rfl) (ia_55) (by omega) ((rd_ne (by decide)).trans ((rd_ne (by decide)).trans (rd_ne (by decide)))) ?_
        refine a_iast (kX6_passes.at 139 rfl) (ia_59) (by omega) ?_
        refine a_iinc (ls' := [(0, vR 44), (1, vI q), (2, vI (k + 1))]) (kX6_passes.at 140 rfl) 2 rfl (by decide) (inr (by omega)) rfl ?_
        refine a_goto (tgt := 152) (kX6_passes.at 141 rfl) (by decide) ?_
        exact ih ((k + 1)) ((upm (upm (upm (upm N 56 ((8 * q) + k) (N 52 k)) 57 ((8 * q) + k) (N 53 k)) 58 ((8 * q) + k) (N 54 k)) 59 ((8 * q) + k) (N 55 k))) (by omega) (by omega) (by rw [forR_succ hk0, ← e_N] <;> (clear ih kk e_N; rfl)) (by omega)
  exact key ((M 44 7) - (0) + 1 : Int).toNat (0) (pass4 M q) (Int.le_refl _) hlohi (forR_nil (Int.le_refl _)).symm  (by omega)
theorem a_passes90 (G : GT) (M : Mem) (q B : Int) (hg : RG M B) (hB : B ≤ 10000) (hq : 0 ≤ q ∧ q ≤ 15) : AW G RX6 cX6_passes 3 none (XM G 3 (qV (passes M q))) 90 [(0, vR 44), (1, vI q), (2, vI 0)] [] (pass2 M q) := by
  have hp := hg.1
  refine l_passes2 G M q B _ hg hB hp.1 ?_
  show AW _ _ _ _ _ _ 121 [(0, vR 44), (1, vI q), (2, vI (M 44 7))] [] (pass3 M q)
  refine a_iconst (kX6_passes.at 71 rfl) rfl ?_
  refine a_istore_n (ls' := [(0, vR 44), (1, vI q), (2, vI 0)]) (kX6_passes.at 72 rfl) (by decide) rfl ?_
  refine l_passes3 G M q B _ hg hB hp.1 ?_
  show AW _ _ _ _ _ _ 150 [(0, vR 44), (1, vI q), (2, vI (M 44 7))] [] (pass4 M q)
  refine a_iconst (kX6_passes.at 86 rfl) rfl ?_
  refine a_istore_n (ls' := [(0, vR 44), (1, vI q), (2, vI 0)]) (kX6_passes.at 87 rfl) (by decide) rfl ?_
  refine l_passes4 G M q _ hp hq hp.1 ?_
  show AW _ _ _ _ _ _ 234 [(0, vR 44), (1, vI q), (2, vI (M 44 7))] [] (passes M q)
  exact a_vretE (kX6_passes.at 142 rfl) (rfl)
theorem c_passes (G : GT) (M : Mem) (q B : Int) (hg : RG M B) (hB : B ≤ 10000) (he : 0 ≤ M 44 9 ∧ M 44 9 ≤ 8) (hq : 0 ≤ q ∧ q ≤ 15) : AM G yX6_passes cX6_passes 3 none 3 M [vR 44, vI q] (qV (passes M q)) := by
  refine AM.mk (own := RX6) rfl sv_X6_passes.1.2.2.2.2.2 (Nat.le_of_ble_eq_true rfl) rfl ?_
  have hp := hg.1
  have hF1 := Fr_pass1 M q
  have e12 := hF1 44 12 (by omega) (by omega)
  have e13 := hF1 44 13 (by omega) (by omega)
  have e14 := hF1 44 14 (by omega) (by omega)
  have e7 := hF1.people
  have J := a_passes90 G M q B hg hB hq
  refine a_aload_n (kX6_passes.at 0 rfl) 0 rfl ?_
  refine a_iconst (kX6_passes.at 1 rfl) rfl ?_
  refine a_putZ (j := 23) (kX6_passes.at 2 rfl) fp_X6_142 (ii_44_23) rfl (by omega) ?_
  refine a_iconst (kX6_passes.at 3 rfl) rfl ?_
  refine a_istore_n (ls' := [(0, vR 44), (1, vI q), (2, vI 0)]) (kX6_passes.at 4 rfl) (by decide) rfl ?_
  refine l_passes1 G M q _ hp he (by omega) ?_
  intro hF
  show AW _ _ _ _ _ _ 68 [(0, vR 44), (1, vI q), (2, vI (M 44 9))] [] (pass1 M q)
  refine a_aload_n (kX6_passes.at 42 rfl) 0 rfl ?_
  refine a_getI (x := (pass1 M q) 44 12) (kX6_passes.at 43 rfl) fg_X6_64 ii_44_12 (rfl) ?_
  refine a_iload_n (kX6_passes.at 44 rfl) 1 rfl ?_
  refine a_icmpne (tgt := 88) (kX6_passes.at 45 rfl) (by decide) (fun h73 => ?_) (fun h73 => ?_)
  · refine a_iconst (kX6_passes.at 52 rfl) rfl ?_
    refine a_istore_n (ls' := [(0, vR 44), (1, vI q), (2, vI 0)]) (kX6_passes.at 53 rfl) (by decide) rfl ?_
    rw [show pass2 M q = (pass1 M q) from by rw [e12] at h73; unfold pass2; first | rw [if_neg h73] | rw [if_pos h73, e13, e14]] at J
    exact J
  · refine a_aload_n (kX6_passes.at 46 rfl) 0 rfl ?_
    refine a_aload_n (kX6_passes.at 47 rfl) 0 rfl ?_
    refine a_getI (x := (pass1 M q) 44 13) (kX6_passes.at 48 rfl) fg_X6_184 ii_44_13 (rfl) ?_
    refine a_aload_n (kX6_passes.at 49 rfl) 0 rfl ?_
    refine a_getI (x := (pass1 M q) 44 14) (kX6_passes.at 50 rfl) fg_X6_187 ii_44_14 (rfl) ?_
    refine AW.callV (as := [vI ((pass1 M q) 44 13), vI ((pass1 M q) 44 14)]) (st := []) (kX6_passes.at 51 rfl) ml_X6_180 sv_X6_happens (k := 44) (io_44) rfl rfl ⟨Nat.le_of_ble_eq_true rfl, Nat.le_of_ble_eq_true rfl⟩ ⟨Nat.le_refl _, Nat.le_refl _⟩ rfl rfl (Nat.le_of_ble_eq_true rfl) (c_happens G (pass1 M q) ((pass1 M q) 44 13) ((pass1 M q) 44 14) (by omega)) (kVE ?_)
    refine a_iconst (kX6_passes.at 52 rfl) rfl ?_
    refine a_istore_n (ls' := [(0, vR 44), (1, vI q), (2, vI 0)]) (kX6_passes.at 53 rfl) (by decide) rfl ?_
    rw [show pass2 M q = (happens (pass1 M q) ((pass1 M q) 44 13) ((pass1 M q) 44 14)) from by rw [e12] at h73; unfold pass2; first | rw [if_neg h73] | rw [if_pos h73, e13, e14]] at J
    exact J
noncomputable def lvI : Int → Mem → Mem := fun k N => upm (upm (upm (upm N 52 k (N 50 (3 * k + 2))) 53 k (N 50 (3 * k + 1))) 54 k 0) 55 k 0
noncomputable def lives0 (M : Mem) : Mem := upm (upm (upm (upm (forR 0 (M 44 7) lvI M) 44 24 0) 44 25 0) 44 26 (-1)) 44 27 (-1)
noncomputable def livesQ (M : Mem) (q : Int) : Mem := forR 0 q (fun q N => passes N q) (lives0 M)
/-- sealed: nothing is to look into it unasked -/
theorem lives_ex : ∃ f : Mem → Mem, ∀ M, f M = livesQ M 16 := ⟨fun M => livesQ M 16, fun _ => rfl⟩
noncomputable def lives : Mem → Mem := Classical.choose lives_ex
theorem lives_eq (M : Mem) : lives M = livesQ M 16 := Classical.choose_spec lives_ex M
theorem Fr_lvI (k : Int) (K : Mem) : Fr K (lvI k K) := by
  unfold lvI
  exact ((((Fr.refl K).up (by omega)).up (by omega)).up (by omega)).up (by omega)
theorem Fr_lives0 (M : Mem) : Fr M (lives0 M) := ((((Fr.for (Fr.refl M) Fr_lvI).up (by omega)).up (by omega)).up (by omega)).up (by omega)
theorem Fr_livesQ (M : Mem) (q : Int) : Fr M (livesQ M q) := Fr.for (Fr_lives0 M) (fun q K => Fr_passes K q)
theorem Fr_lives (M : Mem) : Fr M (lives M) := by rw [lives_eq]; exact Fr_livesQ M 16
/-- houses as told are houses -/
noncomputable def PG (M : Mem) : Prop := (0 ≤ M 44 7 ∧ M 44 7 ≤ 8) ∧ ∀ k, 0 ≤ k → k < M 44 7 → 0 ≤ M 50 (3 * k + 2) ∧ M 50 (3 * k + 2) ≤ 9
theorem RG_lives0 {M : Mem} (h : PG M) : RG (lives0 M) 0 := by
  have key : ∀ k, 0 ≤ k → k ≤ M 44 7 → Fr M (forR 0 k lvI M) ∧ ∀ j, 0 ≤ j → j < k → forR 0 k lvI M 52 j = M 50 (3 * j + 2) ∧ forR 0 k lvI M 53 j = M 50 (3 * j + 1) ∧ forR 0 k lvI M 54 j = 0 ∧ forR 0 k lvI M 55 j = 0 := by
    intro k h0 h1
    refine forR_inv (lo := 0) (hi := k) (fun i K => Fr M K ∧ ∀ j, 0 ≤ j → j < i → K 52 j = M 50 (3 * j + 2) ∧ K 53 j = M 50 (3 * j + 1) ∧ K 54 j = 0 ∧ K 55 j = 0) h0 ⟨Fr.refl M, fun j a b => by omega⟩ (fun i K a b hK => ⟨hK.1.trans (Fr_lvI i K), fun j c d => ?_⟩)
    have e1 := hK.1 50 (3 * i + 2) (by omega) (by omega)
    have e2 := hK.1 50 (3 * i + 1) (by omega) (by omega)
    show ups (K 52) i (K 50 (3 * i + 2)) j = _ ∧ ups (K 53) i (K 50 (3 * i + 1)) j = _ ∧ ups (K 54) i 0 j = _ ∧ ups (K 55) i 0 j = _
    unfold ups
    by_cases hj : j = i
    · subst hj
      simp [e1, e2]
    · simp only [if_neg hj]
      exact hK.2 j c (by omega)
  have hk := key (M 44 7) h.1.1 (Int.le_refl _)
  have e7 : lives0 M 44 7 = M 44 7 := (Fr_lives0 M).people
  refine ⟨by rw [e7]; exact h.1, fun k h0 h1 => ?_, ⟨Int.le_refl 0, Int.le_refl 0⟩, ⟨Int.le_refl 0, Int.le_refl 0⟩⟩
  rw [e7] at h1
  have a := hk.2 k h0 h1
  have b := h.2 k h0 h1
  show (0 ≤ forR 0 (M 44 7) lvI M 52 k ∧ forR 0 (M 44 7) lvI M 52 k ≤ 9) ∧ (0 ≤ forR 0 (M 44 7) lvI M 54 k ∧ forR 0 (M 44 7) lvI M 54 k ≤ 0) ∧ (0 ≤ forR 0 (M 44 7) lvI M 55 k ∧ forR 0 (M 44 7) lvI M 55 k ≤ 0)
  rw [a.1, a.2.2.1, a.2.2.2]
  omega
theorem RG_livesQ {M : Mem} (h : PG M) (q : Int) (hq : 0 ≤ q) : RG (livesQ M q) (16 * q) :=
  forR_inv (fun q K => RG K (16 * q)) hq (by simpa using RG_lives0 h) (fun k K a b hK => (RG_passes hK k).mono (by omega))
set_option maxHeartbeats 4000000 in
set_option maxRecDepth 100000 in
theorem l_lives1 (G : GT) (M : Mem) (X : XT) (hp : 0 ≤ M 44 7 ∧ M 44 7 ≤ 8) (hlohi : (0 : Int) ≤ (M 44 7)) (kk : AW G RX6 cX6_lives 2 none X 62 [(0, vR 44), (1, vI (M 44 7))] [] (forR 0 (M 44 7) lvI M)) : AW G RX6 cX6_lives 2 none X 2 [(0, vR 44), (1, vI 0)] [] M := by
  have key : ∀ (nn : Nat) (k : Int) (N : Mem), (0 : Int) ≤ k → k ≤ (M 44 7) → N = forR 0 k lvI M → (M 44 7) - k < nn → AW G RX6 cX6_lives 2 none X 2 [(0, vR 44), (1, vI k)] [] N := by
    intro nn
    induction nn with
    | zero => intro k N hk0 hk1 e_N  hn; omega
    | succ nn ih =>
      intro k N hk0 hk1 e_N  hn
      have hF : Fr M N := e_N ▸ Fr.for (Fr.refl M) Fr_lvI
      have hN7 := hF.people
      refine a_iload_n (kX6_lives.at 2 rfl) 1 rfl ?_
      refine a_aload_n (kX6_lives.at 3 rfl) 0 rfl ?_
      refine a_getI (x := N 44 7) (kX6_lives.at 4 rfl) fg_X6_105 ii_44_7 (rfl) ?_
      refine a_icmpge (tgt := 62) (kX6_lives.at 5 rfl) (by decide) (fun h7 => ?_) (fun h7 => ?_)
      · obtain rfl : k = M 44 7 := by omega
        subst e_N
        exact kk 
      · refine a_aload_n (kX6_lives.at 6 rfl) 0 rfl ?_
        refine a_getR (kX6_lives.at 7 rfl) fg_X6_31 ir_44_15 ?_
        refine a_iload_n (kX6_lives.at 8 rfl) 1 rfl ?_
        refine a_aload_n (kX6_lives.at 9 rfl) 0 rfl ?_
        refine a_getR (kX6_lives.at 10 rfl) fg_X6_25 ir_44_8 ?_
        refine a_iconst (kX6_lives.at 11 rfl) rfl ?_
        refine a_iload_n (kX6_lives.at 12 rfl) 1 rfl ?_
        refine a_imul (kX6_lives.at 13 rfl) (inr (by omega)) ?_
        refine a_iconst (kX6_lives.at 14 rfl) rfl ?_
        refine a_iadd (kX6_lives.at 15 rfl) (inr (by omega)) ?_
        refine a_iald (x := N 50 ((3 * k) + 2)) (kX6_lives.at 16 rfl) (ia_50) (by omega) (rfl) ?_
        refine a_iast (kX6_lives.at 17 rfl) (ia_52) (by omega) ?_
        refine a_aload_n (kX6_lives.at 18 rfl) 0 rfl ?_
        refine a_getR (kX6_lives.at 19 rfl) fg_X6_34 ir_44_16 ?_
        refine a_iload_n (kX6_lives.at 20 rfl) 1 rfl ?_
        refine a_aload_n (kX6_lives.at 21 rfl) 0 rfl ?_
        refine a_getR (kX6_lives.at 22 rfl) fg_X6_25 ir_44_8 ?_
        refine a_iconst (kX6_lives.at 23 rfl) rfl ?_
        refine a_iload_n (kX6_lives.at 24 rfl) 1 rfl ?_
        refine a_imul (kX6_lives.at 25 rfl) (inr (by omega)) ?_
        refine a_iconst (kX6_lives.at 26 rfl) rfl ?_
        refine a_iadd (kX6_lives.at 27 rfl) (inr (by omega)) ?_
        refine a_iald (x := N 50 ((3 * k) + 1)) (kX6_lives.at 28 rfl) (ia_50) (by omega) (rd_ne (by decide)) ?_
        refine a_iast (kX6_lives.at 29 rfl) (ia_53) (by omega) ?_
        refine a_aload_n (kX6_lives.at 30 rfl) 0 rfl ?_
        refine a_getR (kX6_lives.at 31 rfl) fg_X6_37 ir_44_17 ?_
        refine a_iload_n (kX6_lives.at 32 rfl) 1 rfl ?_
        refine a_iconst (kX6_lives.at 33 rfl) rfl ?_
        refine a_iast (kX6_lives.at 34 rfl) (ia_54) (by omega) ?_
        refine a_aload_n (kX6_lives.at 35 rfl) 0 rfl ?_
        refine a_getR (kX6_lives.at 36 rfl) fg_X6_40 ir_44_18 ?_
        refine a_iload_n (kX6_lives.at 37 rfl) 1 rfl ?_
        refine a_iconst (kX6_lives.at 38 rfl) rfl ?_
        refine a_iast (kX6_lives.at 39 rfl) (ia_55) (by omega) ?_
        refine a_iinc (ls' := [(0, vR 44), (1, vI (k + 1))]) (kX6_lives.at 40 rfl) 1 rfl (by decide) (inr (by omega)) rfl ?_
        refine a_goto (tgt := 2) (kX6_lives.at 41 rfl) (by decide) ?_
        exact ih ((k + 1)) ((upm (upm (upm (upm N 52 k (N 50 ((3 * k) + 2))) 53 k (N 50 ((3 * k) + 1))) 54 k 0) 55 k 0)) (by omega) (by omega) (by rw [forR_succ hk0, ← e_N] <;> (clear ih kk e_N; rfl)) (by omega)
  exact key ((M 44 7) - (0) + 1 : Int).toNat (0) M (Int.le_refl _) hlohi (forR_nil (Int.le_refl _)).symm  (by omega)
set_option maxHeartbeats 4000000 in
set_option maxRecDepth 100000 in
theorem l_lives2 (G : GT) (M : Mem) (P : Option AV → Mem → Prop) (hg : PG M) (he : 0 ≤ M 44 9 ∧ M 44 9 ≤ 8) (hlohi : (0 : Int) ≤ 16) (kk : AW G RX6 cX6_lives 2 none (XM G 4 P) 101 [(0, vR 44), (1, vI 16)] [] (forR 0 16 (fun q N => passes N q) (lives0 M))) : AW G RX6 cX6_lives 2 none (XM G 4 P) 84 [(0, vR 44), (1, vI 0)] [] (lives0 M) := by
  have key : ∀ (nn : Nat) (q : Int) (N : Mem), (0 : Int) ≤ q → q ≤ 16 → N = forR 0 q (fun q N => passes N q) (lives0 M) → 16 - q < nn → AW G RX6 cX6_lives 2 none (XM G 4 P) 84 [(0, vR 44), (1, vI q)] [] N := by
    intro nn
    induction nn with
    | zero => intro q N hk0 hk1 e_N  hn; omega
    | succ nn ih =>
      intro q N hk0 hk1 e_N  hn
      have hGN : RG N (16 * q) := e_N ▸ RG_livesQ hg q hk0
      have hF : Fr M N := e_N ▸ Fr_livesQ M q
      have hN9 := hF 44 9 (by omega) (by omega)
      refine a_iload_n (kX6_lives.at 56 rfl) 1 rfl ?_
      refine a_bipush (kX6_lives.at 57 rfl) rfl rfl ?_
      refine a_icmpge (tgt := 101) (kX6_lives.at 58 rfl) (by decide) (fun h87 => ?_) (fun h87 => ?_)
      · obtain rfl : q = 16 := by omega
        subst e_N
        exact kk 
      · refine a_aload_n (kX6_lives.at 59 rfl) 0 rfl ?_
        refine a_iload_n (kX6_lives.at 60 rfl) 1 rfl ?_
        refine AW.callV (as := [vI q]) (st := []) (kX6_lives.at 61 rfl) ml_X6_197 sv_X6_passes (k := 44) (io_44) rfl rfl ⟨Nat.le_of_ble_eq_true rfl, Nat.le_of_ble_eq_true rfl⟩ ⟨Nat.le_refl _, Nat.le_refl _⟩ rfl rfl (Nat.le_of_ble_eq_true rfl) (c_passes G N q (16 * q) hGN (by omega) (by omega) (by omega)) (kVE ?_)
        refine a_iinc (ls' := [(0, vR 44), (1, vI (q + 1))]) (kX6_lives.at 62 rfl) 1 rfl (by decide) (inr (by omega)) rfl ?_
        refine a_goto (tgt := 84) (kX6_lives.at 63 rfl) (by decide) ?_
        exact ih ((q + 1)) ((passes N q)) (by omega) (by omega) (by rw [forR_succ hk0, ← e_N] <;> (clear ih kk e_N; rfl)) (by omega)
  exact key ((16) - (0) + 1 : Int).toNat (0) (lives0 M) (Int.le_refl _) hlohi (forR_nil (Int.le_refl _)).symm  (by omega)
theorem c_lives (G : GT) (M : Mem) (hg : PG M) (he : 0 ≤ M 44 9 ∧ M 44 9 ≤ 8) : AM G yX6_lives cX6_lives 2 none 4 M [vR 44] (qV (lives M)) := by
  rw [lives_eq]
  refine AM.mk (own := RX6) rfl sv_X6_lives.1.2.2.2.2.2 (Nat.le_of_ble_eq_true rfl) rfl ?_
  have hp := hg.1
  refine a_iconst (kX6_lives.at 0 rfl) rfl ?_
  refine a_istore_n (ls' := [(0, vR 44), (1, vI 0)]) (kX6_lives.at 1 rfl) (by decide) rfl ?_
  refine l_lives1 G M _ hp hp.1 ?_
  show AW _ _ _ _ _ _ 62 [(0, vR 44), (1, vI (M 44 7))] [] (forR 0 (M 44 7) lvI M)
  refine a_aload_n (kX6_lives.at 42 rfl) 0 rfl ?_
  refine a_iconst (kX6_lives.at 43 rfl) rfl ?_
  refine a_putI (j := 24) (kX6_lives.at 44 rfl) fp_X6_162 (ii_44_24) rfl ?_
  refine a_aload_n (kX6_lives.at 45 rfl) 0 rfl ?_
  refine a_iconst (kX6_lives.at 46 rfl) rfl ?_
  refine a_putI (j := 25) (kX6_lives.at 47 rfl) fp_X6_165 (ii_44_25) rfl ?_
  refine a_aload_n (kX6_lives.at 48 rfl) 0 rfl ?_
  refine a_iconst (kX6_lives.at 49 rfl) rfl ?_
  refine a_putI (j := 26) (kX6_lives.at 50 rfl) fp_X6_168 (ii_44_26) rfl ?_
  refine a_aload_n (kX6_lives.at 51 rfl) 0 rfl ?_
  refine a_iconst (kX6_lives.at 52 rfl) rfl ?_
  refine a_putI (j := 27) (kX6_lives.at 53 rfl) fp_X6_171 (ii_44_27) rfl ?_
  refine a_iconst (kX6_lives.at 54 rfl) rfl ?_
  refine a_istore_n (ls' := [(0, vR 44), (1, vI 0)]) (kX6_lives.at 55 rfl) (by decide) rfl ?_
  refine l_lives2 G M _ hg he (by omega) ?_
  show AW _ _ _ _ _ _ 101 [(0, vR 44), (1, vI 16)] [] (livesQ M 16)
  exact a_vretE (kX6_lives.at 64 rfl) (rfl)
