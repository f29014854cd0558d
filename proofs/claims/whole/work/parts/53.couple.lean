/-! ===== the class and the reference, coupled ===== -/
/-- what the class has been told, as the reference (K) has it -/
noncomputable def CTe (M K : Mem) : Prop := (M 1 4 = K 44 6 ∧ ∀ i, 0 ≤ i → i < K 44 6 → M 14 i = K 49 i) ∧ (M 2 3 = K 44 9 ∧ ∀ i, 0 ≤ i → i < K 44 9 → M 18 i = K 51 (3 * i) ∧ M 19 i = K 51 (3 * i + 1) ∧ M 20 i = K 51 (3 * i + 2)) ∧ EC M
noncomputable def CS (M K : Mem) : Prop := (∀ s : Nat, s < 4 → M (10 + s) 1 = K 45 s ∧ M (10 + s) 2 = K 46 s ∧ (0 ≤ K 45 s → ∀ i, 0 ≤ i → i < K 46 s → M (40 + s) i = K 47 (60 * s + i))) ∧ M 0 10 = K 44 4
/-- who moves where the events of g are gone, as bits -/
noncomputable def MvB (b : Int) (R : Mem) (g : Int) : Prop := (0 ≤ b ∧ b < 256) ∧ ∀ p, 0 ≤ p → p ≤ 7 → (isIn b p = true ↔ p < R 44 7 ∧ 0 < lives (upm R 44 11 g) 54 p)
noncomputable def CK (M K : Mem) : Prop := M 0 9 = 0 ∨ (M 0 9 = 1 ∧ ∀ sub, 0 ≤ sub → sub < iShl 1 (K 44 9) → MvB (M 9 sub) (reads K).1 (iShl 1 (K 44 9) - 1 - sub))
noncomputable def Cp (M K : Mem) : Prop := CTe M K ∧ TX M K ∧ QK M K ∧ (SC M 0 (find K) ∧ TR M 0 (find K) 16) ∧ CS M K ∧ CK M K
theorem EV_of {M K : Mem} (h : CTe M K) (h9 : 0 ≤ K 44 9 ∧ K 44 9 ≤ 8) (h12 : K 44 12 = -1) : EV K := by
  obtain ⟨-, ⟨h1, h2⟩, h3⟩ := h
  refine ⟨h9, fun i a b => ?_, fun z => by omega⟩
  have z := h2 i a b
  have y := h3.2 i a (by omega)
  rw [← z.1, ← z.2.1, ← z.2.2]
  exact y
/-- what load leaves is ready to run R, but for the events gone -/
theorem plX_W {M R : Mem} {sub q : Int} (he : M 2 3 = R 44 9) (hv : ∀ i, 0 ≤ i → i < R 44 9 → M 18 i = R 51 (3 * i) ∧ M 19 i = R 51 (3 * i + 1) ∧ M 20 i = R 51 (3 * i + 2)) (hg : ∀ e, 0 ≤ e → e < R 44 9 → (isIn sub e = true ↔ ¬ isIn (R 44 11) e = true)) (h12 : R 44 12 = -1) (hq : 0 ≤ q) : plX M sub q = plW R q := by
  unfold plX plW plW1
  rw [if_neg (by omega), he]
  refine forR_cong fun e w a b => ?_
  unfold pxF plE
  have z := hv e a b
  rw [z.1, z.2.1, z.2.2]
  by_cases e1 : R 51 (3 * e + 1) = q ∧ ¬ isIn (R 44 11) e = true
  · rw [if_pos e1, if_pos ⟨(hg e a b).mpr e1.2, e1.1⟩]
  · rw [if_neg e1, if_neg (fun y => e1 ⟨y.2, (hg e a b).mp y.1⟩)]
theorem all255 : ∀ e : Fin 8, isIn 255 (e.val : Int) = true ∧ ¬ isIn 0 (e.val : Int) = true := by decide +kernel
theorem in255 {e : Int} (h : 0 ≤ e ∧ e < 8) : isIn 255 e = true ∧ ¬ isIn 0 e = true := by
  have z := all255 ⟨e.toNat, by omega⟩
  simp only [] at z
  rw [show ((e.toNat : Nat) : Int) = e by omega] at z
  exact z
theorem lives_SR {R : Mem} (h : IR R) (hE : EV R) : SR (lives R) 16 0 0 := by
  rw [lives_eq]
  refine forR_inv (lo := 0) (hi := 16) (f := fun q N => passes N q) (a := lives0 R) (fun q N => SR N q 0 0 ∧ Fr R N) (by omega) ⟨SR_lives0 h, Fr_lives0 R⟩ (fun q N a b hN => ?_) |>.1
  obtain ⟨hR, hF⟩ := hN
  have hG := CG_pass2 hR.vr (hE.Fr hF) a
  have hp8 := hR.1
  have hR3 : SR (pass3 N q) q 0 (N 44 7) := (SR_comeAll (SR_CG hR hG) (n := N 44 7) (by rw [(Fr_pass2 N q).people]; omega)).1
  have p3 : pass3 N q 44 7 = N 44 7 := (Fr_pass3 N q).people
  have hR4 : SR (pass4 N q) (q + 1) 0 0 := by
    by_cases h23 : pass3 N q 44 23 = 0
    · rw [pass4_kn h23]
      exact (SR_knockAll hR3 a (n := N 44 7) (by omega)).1.next (by omega)
    · rw [pass4_hol h23]
      exact hR3.next (by omega)
  exact ⟨hR4.of (passes_by N q hp8.1).1, hF.trans (Fr_passes N q)⟩
