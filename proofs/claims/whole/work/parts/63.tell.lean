/-! ===== what is told, and nothing else, decides ===== -/
noncomputable def TE (K L : Mem) : Prop := (L 44 6 = K 44 6 ∧ L 44 9 = K 44 9 ∧ L 44 11 = K 44 11 ∧ L 44 12 = K 44 12) ∧ (∀ j, L 49 j = K 49 j) ∧ ∀ j, L 51 j = K 51 j
theorem reads_T {M N : Mem} (hF : TE M N) (h : MI M) : (reads N).2 = (reads M).2 ∧ (reads N).1 44 7 = (reads M).1 44 7 ∧ ∀ j, 0 ≤ j → j < 3 * (reads M).1 44 7 → (reads N).1 50 j = (reads M).1 50 j := by
  have e6 : N 44 6 = M 44 6 := hF.1.1
  have hb : ∀ j, N 49 j = M 49 j := hF.2.1
  have hr := rdA_E hb h.1.1
  rw [← e6] at hr
  by_cases h1 : (rdA M (M 44 6)).2 = -1
  · have eM : rdA M (M 44 6) = ((rdA M (M 44 6)).1, -1) := by rw [← h1]
    have h1N : (rdA N (N 44 6)).2 = -1 := by rw [hr.1, e6]; exact h1
    have eN : rdA N (N 44 6) = ((rdA N (N 44 6)).1, -1) := by rw [← h1N]
    by_cases h2 : 0 < M 44 6 ∧ M 44 6 % 4 ≠ 3
    · rw [reads_mid eM h2, reads_mid eN (by rw [e6]; exact h2)]
      refine ⟨e6, rfl, fun j a b => ?_⟩
      have b' : j < 3 * (upm (rdA M (M 44 6)).1 44 7 0 44 7) := b
      rw [rd_eq] at b'
      omega
    · have e2 := reads_ok eM h2
      have e3 := reads_ok eN (by rw [e6]; exact h2)
      have pM := rdA_people M h.1.1 h1
      have pN := rdA_people N (by rw [e6]; exact h.1.1) h1N
      rw [e2, e3]
      refine ⟨rfl, ?_, fun j a b => ?_⟩
      · show (rdA N (N 44 6)).1 44 7 = (rdA M (M 44 6)).1 44 7
        rw [pM.1, pN.1, e6]
      · have b' : j < 3 * (rdA M (M 44 6)).1 44 7 := b
        rw [pM.1] at b'
        have := hr.2 (by rw [e6]; exact h1) j a (by rw [e6]; omega)
        rw [e6] at this
        show (rdA N (N 44 6)).1 50 j = (rdA M (M 44 6)).1 50 j
        rw [e6]
        exact this
  · have h1N : (rdA N (N 44 6)).2 ≠ -1 := by rw [hr.1, e6]; exact h1
    have e2 : reads M = rdA M (M 44 6) := by rw [reads_eq]; unfold reads0; rw [if_pos h1]
    have e3 : reads N = rdA N (N 44 6) := by rw [reads_eq]; unfold reads0; rw [if_pos h1N]
    have oM := (reads_out M h.1).resolve_left (fun z => h1 (by rw [← e2]; exact z.1))
    have oN := (reads_out N (by rw [e6]; exact h.1)).resolve_left (fun z => h1N (by rw [← e3]; exact z.1))
    refine ⟨by rw [e2, e3, hr.1, e6], by rw [oM.2, oN.2], fun j a b => ?_⟩
    rw [oM.2] at b
    omega
theorem reads_InT {M N : Mem} (hT : TE M N) (h : MB M) : InE (reads M).1 (reads N).1 := by
  have hr := reads_T hT h.1
  have f1 := Ft_reads M h.1.1.1
  have f2 := Ft_reads N (by rw [hT.1.1]; exact h.1.1.1)
  obtain ⟨⟨e6, e9, e11, e12⟩, e49, e51⟩ := hT
  refine ⟨⟨hr.2.1, ?_, ?_, ?_, Or.inl (reads_BI h).1.2.2⟩, hr.2.2, fun j _ _ => ?_⟩
  · rw [f1 44 9 (by omega) (by omega), f2 44 9 (by omega) (by omega), e9]
  · rw [f1 44 11 (by omega) (by omega), f2 44 11 (by omega) (by omega), e11]
  · rw [f1 44 12 (by omega) (by omega), f2 44 12 (by omega) (by omega), e12]
  · rw [f1 51 j (by omega) (by omega), f2 51 j (by omega) (by omega), e51]
theorem find_T {M N : Mem} (hT : TE M N) (h : MB M) : OutE (find M) (find N) := lives_E (reads_InT hT h) (reads_PG M h.1.1).1
theorem SQ.O {M K L : Mem} (h : SQ M K) (hO : OutE K L) : SQ M L := by
  obtain ⟨h1, h2, -, h4, h5, h6⟩ := h
  have e7 := hO.p
  have hi := hO.1.1
  refine ⟨by rw [e7]; exact h1, fun p a b => ?_, trivial, ?_, h5, fun p a b => ?_⟩
  · rw [e7] at b
    have z := hO.1.2.1 p a b
    rw [hi.2.1 (3 * p) (by omega) (by omega), z.1, z.2.1, z.2.2.1, z.2.2.2]
    exact h2 p a b
  · obtain ⟨z1, z2, z3, z4⟩ := hO.1.2.2
    rw [movesNow_E hO, z1, z2, z3, z4]
    exact h4
  · rw [h6 p a b, e7]
    refine ⟨fun z => ⟨z.1, ?_⟩, fun z => ⟨z.1, ?_⟩⟩
    · have y := (hO.1.2.1 p a z.1).2.2.1
      rw [y]
      exact z.2
    · have y := (hO.1.2.1 p a z.1).2.2.1
      rw [← y]
      exact z.2
theorem TR.O {M K L : Mem} {t : Nat} (h : TR M t K 16) (hO : OutE K L) : TR M t L 16 := fun x p a b c d => by
  have e7 := hO.p
  rw [e7] at d
  have z0 : L 56 (8 * x + p) = K 56 (8 * x + p) := hO.2 x p 0 a (by omega) c d (by omega)
  have z1 : L 57 (8 * x + p) = K 57 (8 * x + p) := hO.2 x p 1 a (by omega) c d (by omega)
  have z2 : L 58 (8 * x + p) = K 58 (8 * x + p) := hO.2 x p 2 a (by omega) c d (by omega)
  have z3 : L 59 (8 * x + p) = K 59 (8 * x + p) := hO.2 x p 3 a (by omega) c d (by omega)
  rw [z0, z1, z2, z3]
  exact h x p a b c d
theorem CK.T {M K L : Mem} (h : CK M K) (hT : TE K L) (hB : MB K) : CK M L := by
  rcases h with h | ⟨h1, h2⟩
  · exact Or.inl h
  · refine Or.inr ⟨h1, fun sub a b => ?_⟩
    rw [hT.1.2.1] at b
    rw [hT.1.2.1]
    have z := h2 sub a b
    have hI := reads_InT hT hB
    have hO := lives_E (hI.up11 (iShl 1 (K 44 9) - 1 - sub)) (reads_PG K hB.1.1).1
    refine ⟨z.1, fun p c d => (z.2 p c d).trans ?_⟩
    rw [hI.1.1]
    refine ⟨fun y => ⟨y.1, ?_⟩, fun y => ⟨y.1, ?_⟩⟩
    · rw [(hO.1.2.1 p c (by rw [(Fr_lives _).people]; exact y.1)).2.2.1]
      exact y.2
    · rw [← (hO.1.2.1 p c (by rw [(Fr_lives _).people]; exact y.1)).2.2.1]
      exact y.2
theorem CK.ext {M N K : Mem} (h : CK M K) (e : N 0 9 = M 0 9 ∧ ∀ x, N 9 x = M 9 x) : CK N K := by
  rcases h with h | ⟨h1, h2⟩
  · exact Or.inl (e.1.trans h)
  · refine Or.inr ⟨e.1.trans h1, fun sub a b => ?_⟩
    rw [e.2]
    exact h2 sub a b
/-- the class altered where only sheets, sights, findings and scratch lie; the reference told alike -/
theorem Cp.sh {M N K L : Mem} (h : Cp M K) (hB : MB K) (eM : ∀ (c : Nat) (x : Int), (c = 0 ∧ x = 9) ∨ c = 1 ∨ c = 2 ∨ c = 4 ∨ c = 9 ∨ (14 ≤ c ∧ c ≤ 20) ∨ (24 ≤ c ∧ c ≤ 31) → N c x = M c x) (hT : TE K L) (hQ : QK N L) (hS : CS N L) : Cp N L := by
  obtain ⟨h1, h2, h3, h4, -, h6⟩ := h
  have hr := reads_T hT hB.1
  have hO := find_T hT hB
  have k1 := h1.ext (N := N) (fun c x a => eM c x (by omega))
  have k2 := h2.ext (N' := N) (fun c x a => eM c x (by omega))
  have k4 := (h4.1.O hO).ext (N' := N) (fun c x a => eM c x (by omega))
  have k5 := (h4.2.O hO).ext (N' := N) (fun x => eM 31 x (by omega))
  have k6 := (h6.T hT hB).ext (N := N) ⟨eM 0 9 (by omega), fun x => eM 9 x (by omega)⟩
  obtain ⟨⟨e6, e9, e11, e12⟩, e49, e51⟩ := hT
  refine ⟨⟨⟨by rw [e6]; exact k1.1.1, fun i a b => ?_⟩, ⟨by rw [e9]; exact k1.2.1.1, fun i a b => ?_⟩, k1.2.2⟩, ⟨by rw [hr.1]; exact k2.1, by rw [hr.2.1]; exact k2.2.1, fun p a b => ?_⟩, hQ, ⟨k4, k5⟩, hS, k6⟩
  · rw [e6] at b
    rw [e49]
    exact k1.1.2 i a b
  · rw [e9] at b
    rw [e51, e51, e51]
    exact k1.2.1.2 i a b
  · rw [hr.2.1] at b
    rw [hr.2.2 (3 * p) (by omega) (by omega), hr.2.2 (3 * p + 1) (by omega) (by omega), hr.2.2 (3 * p + 2) (by omega) (by omega)]
    exact k2.2.2 p a b
theorem TE.refl (K : Mem) : TE K K := ⟨⟨rfl, rfl, rfl, rfl⟩, fun _ => rfl, fun _ => rfl⟩
/-- all that is told is alike -/
noncomputable def TF (K L : Mem) : Prop := ∀ (c : Nat) (j : Int), 44 ≤ c → c ≠ 50 → ¬ (52 ≤ c ∧ c ≤ 59) → c ≠ 61 → c ≠ 62 → ¬ (c = 44 ∧ (j = 7 ∨ j = 13 ∨ j = 14 ∨ (23 ≤ j ∧ j ≤ 27) ∨ j = 31)) → L c j = K c j
theorem TF.f {K L : Mem} (h : TF K L) {j : Int} (hj : j = 4 ∨ j = 6 ∨ j = 9 ∨ j = 11 ∨ j = 12 ∨ j = 28) : L 44 j = K 44 j := h 44 j (by omega) (by omega) (by omega) (by omega) (by omega) (by omega)
theorem TF.c {K L : Mem} (h : TF K L) {c : Nat} (hc : (45 ≤ c ∧ c ≤ 49) ∨ c = 51 ∨ c = 60) (j : Int) : L c j = K c j := h c j (by omega) (by omega) (by omega) (by omega) (by omega) (by omega)
theorem TF.te {K L : Mem} (h : TF K L) : TE K L := ⟨⟨h.f (by omega), h.f (by omega), h.f (by omega), h.f (by omega)⟩, fun j => h.c (by omega) j, fun j => h.c (by omega) j⟩
theorem Fp.tf {K L : Mem} (h : Fp K L) : TF K L := fun c j _ b d e f g => h c j b d e f g
theorem Fz.tf {K L : Mem} (h : Fz K L) : TF K L := fun c j a _ _ _ _ _ => h c j a
theorem TF.refl (K : Mem) : TF K K := fun _ _ _ _ _ _ _ _ => rfl
theorem TF.trans {K L J : Mem} (h1 : TF K L) (h2 : TF L J) : TF K J := fun c j a b d e f g => (h2 c j a b d e f g).trans (h1 c j a b d e f g)
theorem TF.up {K L : Mem} (h : TF K L) (c : Nat) (i v : Int) : TF (upm K c i v) (upm L c i v) := fun c' j a b d e f g => by
  by_cases ec : c' = c
  · subst ec
    rw [upm_same, upm_same]
    unfold ups
    split
    · rfl
    · exact h c' j a b d e f g
  · rw [rd_ne ec, rd_ne ec]
    exact h c' j a b d e f g
theorem TF.MB {K L : Mem} (hT : TF K L) (h : MB K) : MB L := by
  refine ⟨⟨?_, fun i a b => ?_, ?_⟩, ⟨?_, ?_⟩, ⟨?_, fun i a b => ?_⟩, fun s a b => ?_⟩
  · rw [hT.f (by omega)]; exact h.1.1
  · rw [hT.f (by omega)] at b; rw [hT.c (by omega)]; exact h.1.2.1 i a b
  · rw [hT.f (by omega)]; exact h.1.2.2
  · rw [hT.f (by omega)]; exact h.2.1.1
  · rw [hT.f (by omega)]; exact h.2.1.2
  · rw [hT.f (by omega)]; exact h.2.2.1.1
  · rw [hT.f (by omega)] at b; rw [hT.c (by omega)]; exact h.2.2.1.2 i a b
  · rw [hT.c (by omega), hT.c (by omega)]; exact h.2.2.2 s a b
theorem CS.F {M K L : Mem} (h : CS M K) (hT : TF K L) : CS M L := by
  refine ⟨fun s hs => ?_, by rw [hT.f (by omega)]; exact h.2⟩
  have z := h.1 s hs
  rw [hT.c (c := 45) (by omega), hT.c (c := 46) (by omega)]
  exact ⟨z.1, z.2.1, fun a i b c => by rw [hT.c (by omega)]; exact z.2.2 a i b c⟩
theorem QK.F {M K L : Mem} (h : QK M K) (hT : TF K L) : QK M L := by
  refine ⟨by rw [hT.f (by omega)]; exact h.1, by rw [hT.f (by omega)]; exact h.2.1, fun i a b => ?_⟩
  rw [hT.f (by omega)] at b
  rw [hT.c (by omega), hT.c (by omega), hT.c (by omega)]
  exact h.2.2 i a b
theorem Cp.F {M N K L : Mem} (h : Cp M K) (hB : MB K) (e : ∀ (c : Nat) (x : Int), c < 44 → N c x = M c x) (hT : TF K L) : Cp N L :=
  h.sh hB (fun c x a => e c x (by omega)) hT.te ((h.2.2.1.F hT).ext fun c x a => e c x (by omega)) ((h.2.2.2.2.1.F hT).ext fun c x a => e c x (by omega))
/-- what a trial alters -/
noncomputable def Fy (M N : Mem) : Prop := ∀ (c : Nat) (x : Int), c ≠ 5 → ¬ (32 ≤ c ∧ c ≤ 39) → c ≠ 6 → c ≠ 8 → N c x = M c x
theorem Fy.refl (M : Mem) : Fy M M := fun _ _ _ _ _ _ => rfl
theorem Fy.trans {M N K : Mem} (h1 : Fy M N) (h2 : Fy N K) : Fy M K := fun c x a b d e => (h2 c x a b d e).trans (h1 c x a b d e)
theorem Fy.z {M N : Mem} (h : Fy M N) : Fz M N := fun c x a => h c x (by omega) (by omega) (by omega) (by omega)
theorem Cp.y {M N K : Mem} (h : Cp M K) (hB : MB K) (hF : Fy M N) : Cp N K :=
  h.sh hB (fun c x a => hF c x (by omega) (by omega) (by omega) (by omega)) (TE.refl K) (h.2.2.1.ext fun c x a => hF c x (by omega) (by omega) (by omega) (by omega)) (h.2.2.2.2.1.ext fun c x a => hF c x (by omega) (by omega) (by omega) (by omega))
theorem rf_InE (K : Mem) : InE (reads K).1 (find K) := (Fr_lives _).inE
theorem rf_IE {K : Mem} (h : MB K) : IE (reads K).1 (find K) := ((Fr_lives (reads K).1).q).ie (reads_BI h).1.2.2
