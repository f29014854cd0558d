/-! ===== the class: loaded, told again ===== -/
noncomputable def LPd (M N : Mem) (t : Nat) (sub : Int) : Prop := (N (4 + t) 8 = M 1 5 ∧ (∀ p, 0 ≤ p → p < M 1 5 → N (24 + 8 * t) p = M 15 p ∧ N (25 + 8 * t) p = M 16 p ∧ N (26 + 8 * t) p = M 17 p) ∧ ∀ q, 0 ≤ q → q ≤ 15 → N (27 + 8 * t) q = plX M sub q) ∧ ∀ (c : Nat) (x : Int), ¬ (24 + 8 * t ≤ c ∧ c ≤ 27 + 8 * t) → ¬ (c = 4 + t ∧ x = 8) → N c x = M c x
theorem LD_load {M K N : Mem} {t : Nat} {sub g : Int} (hC : CTe M K) (hX : TX M K) (h : MB K) (hL : LPd M N t sub) (hg : ∀ e, 0 ≤ e → e < K 44 9 → (isIn sub e = true ↔ ¬ isIn g e = true)) : LD N t (upm (reads K).1 44 11 g) := by
  have hF := Ft_reads K h.1.1.1
  have f9 : (reads K).1 44 9 = K 44 9 := hF 44 9 (by decide) (by omega)
  have f12 : (reads K).1 44 12 = K 44 12 := hF 44 12 (by decide) (by omega)
  have e : ∀ j, j ≠ 11 → upm (reads K).1 44 11 g 44 j = (reads K).1 44 j := fun j hj => rd_ni hj
  have e5 : ∀ (c : Nat) j, c ≠ 44 → upm (reads K).1 44 11 g c j = (reads K).1 c j := fun c j hc => rd_ne hc
  refine ⟨?_, fun p a b => ?_, fun q a b => ?_⟩
  · rw [hL.1.1, e 7 (by omega)]
    exact hX.2.1
  · rw [e 7 (by omega)] at b
    have z := hL.1.2.1 p a (by rw [hX.2.1]; exact b)
    have y := hX.2.2 p a b
    rw [z.1, z.2.1, z.2.2, e5 50 _ (by decide), e5 50 _ (by decide), e5 50 _ (by decide)]
    exact y
  · rw [hL.1.2.2 q a b]
    refine plX_W ?_ (fun i c d => ?_) (fun x c d => ?_) ?_ a
    · rw [e 9 (by omega), f9]
      exact hC.2.1.1
    · rw [e 9 (by omega), f9] at d
      rw [e5 51 _ (by decide), e5 51 _ (by decide), e5 51 _ (by decide), hF 51 _ (by decide) (by omega), hF 51 _ (by decide) (by omega), hF 51 _ (by decide) (by omega)]
      exact hC.2.1.2 i c d
    · rw [e 9 (by omega), f9] at d
      rw [rd_eq]
      exact hg x c d
    · rw [e 12 (by omega), f12]
      exact h.2.1.2
theorem IR.g {R : Mem} (h : IR R) (g : Int) : IR (upm R 44 11 g) := h
theorem reads_g0 {K : Mem} (h : MB K) : upm (reads K).1 44 11 0 = (reads K).1 := by
  have hF := Ft_reads K h.1.1.1
  have e : (reads K).1 44 11 = 0 := (hF 44 11 (by decide) (by omega)).trans h.2.1.1
  funext c j
  by_cases ec : c = 44
  · subst ec
    by_cases ej : j = 11
    · subst ej
      rw [rd_eq, e]
    · rw [rd_ni ej]
  · rw [rd_ne ec]
theorem EV.Ft {K R : Mem} (hE : EV K) (hF : Ft K R) : EV R := by
  have e9 : R 44 9 = K 44 9 := hF 44 9 (by decide) (by omega)
  refine ⟨by rw [e9]; exact hE.1, fun i a b => ?_, ?_⟩
  · rw [hF 51 _ (by decide) (by omega), hF 51 _ (by decide) (by omega), hF 51 _ (by decide) (by omega)]
    exact hE.2.1 i a (by rw [e9] at b; exact b)
  · rw [hF 44 12 (by decide) (by omega), hF 44 13 (by decide) (by omega), hF 44 14 (by decide) (by omega)]
    exact hE.2.2
theorem EV.g {R : Mem} (h : EV R) (g : Int) : EV (upm R 44 11 g) := h
theorem SC.ext {N N' K : Mem} {t : Nat} (h : SC N t K) (e : ∀ (c : Nat) (x : Int), c = 4 + t ∨ (24 + 8 * t ≤ c ∧ c ≤ 30 + 8 * t) → N' c x = N c x) : SC N' t K := by
  obtain ⟨h1, h2, h3, h4, h5, h6⟩ := h
  refine ⟨by rw [e _ _ (by omega)]; exact h1, fun p a b => ?_, fun i a b => by rw [e _ _ (by omega)]; exact h3 i a b, ?_, by rw [e _ _ (by omega)]; exact h5, fun p a b => by rw [e _ _ (by omega)]; exact h6 p a b⟩
  · rw [e (24 + 8 * t) _ (by omega), e (25 + 8 * t) _ (by omega), e (26 + 8 * t) _ (by omega), e (28 + 8 * t) _ (by omega), e (29 + 8 * t) _ (by omega)]
    exact h2 p a b
  · rw [e (4 + t) 9 (by omega), e (4 + t) 10 (by omega), e (4 + t) 11 (by omega), e (4 + t) 12 (by omega), e (4 + t) 13 (by omega)]
    exact h4
theorem TR.ext {N N' K : Mem} {t : Nat} {q : Int} (h : TR N t K q) (e : ∀ x, N' (31 + 8 * t) x = N (31 + 8 * t) x) : TR N' t K q := fun x p a b c d => by
  rw [e]
  exact h x p a b c d
theorem TX.ext {N N' K : Mem} (h : TX N K) (e : ∀ (c : Nat) (x : Int), c = 1 ∨ (15 ≤ c ∧ c ≤ 17) → N' c x = N c x) : TX N' K := by
  refine ⟨by rw [e _ _ (by omega)]; exact h.1, by rw [e _ _ (by omega)]; exact h.2.1, fun p a b => ?_⟩
  rw [e _ _ (by omega), e _ _ (by omega), e _ _ (by omega)]
  exact h.2.2 p a b
/-- what retell alters -/
noncomputable def Fe (M N : Mem) : Prop := ∀ (c : Nat) (x : Int), ¬ (15 ≤ c ∧ c ≤ 17) → ¬ (24 ≤ c ∧ c ≤ 31) → ¬ (c = 1 ∧ (x = 5 ∨ x = 6)) → ¬ (c = 4 ∧ 8 ≤ x ∧ x ≤ 14) → ¬ (c = 0 ∧ x = 9) → N c x = M c x
theorem k_retell (G : GT) (M K : Mem) (hC : CTe M K) (h : MB K) : AM G yX5_retell cX5_retell 1 none 4 M [vR 0] (pV fun N => (TX N K ∧ SC N 0 (find K) ∧ TR N 0 (find K) 16 ∧ N 0 9 = 0) ∧ Fe M N) := by
  refine AM.mk (own := RX5) rfl sv_X5_retell.1.2.2.2.2.2 (Nat.le_of_ble_eq_true rfl) rfl ?_
  have hI := reads_IR K h.1.1
  have hF := Ft_reads K h.1.1.1
  have hE : EV (reads K).1 := (EV_of hC h.1.2.2 h.2.1.2).Ft hF
  refine a_aload_n (kX5_retell.at 0 rfl) 0 rfl ?_
  refine a_getR (kX5_retell.at 1 rfl) fg_X5_10 ir_0_0 ?_
  refine AW.callV (as := []) (st := []) (kX5_retell.at 2 rfl) ml_X5_324 sv_X3_parse (k := 1) (io_1) rfl rfl ⟨Nat.le_of_ble_eq_true rfl, Nat.le_of_ble_eq_true rfl⟩ ⟨Nat.le_refl _, Nat.le_refl _⟩ rfl rfl (Nat.le_of_ble_eq_true rfl) (k_parse G M K hC.1.1.symm (by rw [hC.1.1]; exact h.1.1) (fun i a b => hC.1.2 i a (by rw [← hC.1.1]; exact b))) (kV fun N1 hN1 => ?_)
  skip
  obtain ⟨hX1, hF1⟩ := hN1
  have hE1 : EC N1 := by
    have z := hC.2.2
    unfold EC
    rw [hF1 2 3 (by omega) (by omega) (by omega) (by omega)]
    refine ⟨z.1, fun i a b => ?_⟩
    rw [hF1 18 i (by omega) (by omega) (by omega) (by omega), hF1 19 i (by omega) (by omega) (by omega) (by omega), hF1 20 i (by omega) (by omega) (by omega) (by omega)]
    exact z.2 i a b
  have hC1 : CTe N1 K := by
    refine ⟨⟨by rw [hF1 1 4 (by omega) (by omega) (by omega) (by omega)]; exact hC.1.1, fun i a b => by rw [hF1 14 i (by omega) (by omega) (by omega) (by omega)]; exact hC.1.2 i a b⟩, ⟨by rw [hF1 2 3 (by omega) (by omega) (by omega) (by omega)]; exact hC.2.1.1, fun i a b => ?_⟩, hE1⟩
    rw [hF1 18 i (by omega) (by omega) (by omega) (by omega), hF1 19 i (by omega) (by omega) (by omega) (by omega), hF1 20 i (by omega) (by omega) (by omega) (by omega)]
    exact hC.2.1.2 i a b
  have hp : 0 ≤ N1 1 5 ∧ N1 1 5 ≤ 8 := by rw [hX1.2.1]; exact hI.1
  refine a_aload_n (kX5_retell.at 3 rfl) 0 rfl ?_
  refine a_getR (kX5_retell.at 4 rfl) fg_X5_29 ir_0_3 ?_
  refine a_aload_n (kX5_retell.at 5 rfl) 0 rfl ?_
  refine a_getR (kX5_retell.at 6 rfl) fg_X5_10 ir_0_0 ?_
  refine a_aload_n (kX5_retell.at 7 rfl) 0 rfl ?_
  refine a_getR (kX5_retell.at 8 rfl) fg_X5_19 ir_0_1 ?_
  refine a_sipush (kX5_retell.at 9 rfl) rfl rfl ?_
  refine AW.callV (as := [vR 1, vR 2, vI 255]) (st := []) (kX5_retell.at 10 rfl) ml_X5_157 sv_X1_load (k := 4) (io_4) rfl rfl ⟨Nat.le_of_ble_eq_true rfl, Nat.le_of_ble_eq_true rfl⟩ ⟨Nat.le_refl _, Nat.le_refl _⟩ rfl rfl (Nat.le_of_ble_eq_true rfl) (k_load G N1 0 255 (by omega) hp hE1 (by omega)) (kV fun N2 hN2 => ?_)
  skip
  have hL : LD N2 0 (reads K).1 := by
    have z := LD_load (g := 0) hC1 hX1 h hN2 (fun e a b => by have y := in255 (e := e) (by have := h.1.2.2; omega); exact ⟨fun _ => y.2, fun _ => y.1⟩)
    rw [reads_g0 h] at z
    exact z
  refine a_aload_n (kX5_retell.at 11 rfl) 0 rfl ?_
  refine a_getR (kX5_retell.at 12 rfl) fg_X5_29 ir_0_3 ?_
  refine AW.callV (as := []) (st := []) (kX5_retell.at 13 rfl) ml_X5_162 sv_X1_run (k := 4) (io_4) rfl rfl ⟨Nat.le_of_ble_eq_true rfl, Nat.le_of_ble_eq_true rfl⟩ ⟨Nat.le_refl _, Nat.le_refl _⟩ rfl rfl (Nat.le_of_ble_eq_true rfl) (k_run G N2 (reads K).1 0 (by omega) hL hI hE) (kV fun N3 hN3 => ?_)
  skip
  obtain ⟨s3, t3, -, f3⟩ := hN3
  have f2 := hN2.2
  have f23 : ∀ (c : Nat) (x : Int), ¬ (24 ≤ c ∧ c ≤ 31) → ¬ (c = 4 ∧ 8 ≤ x ∧ x ≤ 14) → N3 c x = N1 c x := fun c x a b => by rw [f3 c x (by omega) (by omega) (by omega) (by omega) (by omega) (by omega) (by omega), f2 c x (by omega) (by omega)]
  refine a_aload_n (kX5_retell.at 14 rfl) 0 rfl ?_
  refine a_iconst (kX5_retell.at 15 rfl) rfl ?_
  refine a_putZ (j := 9) (kX5_retell.at 16 rfl) fp_X5_211 (ii_0_9) rfl (by omega) ?_
  exact a_vret (kX5_retell.at 17 rfl) (⟨⟨hX1.ext (fun c x a => by rw [rd_ne (by omega)]; exact f23 c x (by omega) (by omega)), s3.ext (fun c x a => rd_ne (by omega)), t3.ext (fun x => rd_ne (by omega)), rd_eq⟩, fun c x a b d e f => (by by_cases ec : c = 0; (rw [ec, rd_ni (by omega), f23 0 x (by omega) (by omega), hF1 0 x (by omega) (by omega) (by omega) (by omega)]); (rw [rd_ne ec, f23 c x b e, hF1 c x (by omega) (by omega) (by omega) d]))⟩)
