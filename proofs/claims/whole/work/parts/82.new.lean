/-! ===== new objects ===== -/
def M0 : Mem := fun c i => if c = 45 ∧ 0 ≤ i ∧ i < 4 then -1 else if c = 1 ∧ i = 6 then -1 else if c = 4 ∧ (i = 12 ∨ i = 13) then -1 else if c = 5 ∧ (i = 12 ∨ i = 13) then -1 else if c = 6 ∧ i = 0 then -1 else if c = 10 ∧ i = 1 then -1 else if c = 11 ∧ i = 1 then -1 else if c = 12 ∧ i = 1 then -1 else if c = 13 ∧ i = 1 then -1 else if c = 44 ∧ i = 12 then -1 else 0
theorem okM0 : okM M0 := fun c i => by
  unfold M0
  (repeat' split) <;> exact ⟨by decide, by decide⟩
theorem reads_0 {M : Mem} (h : M 44 6 = 0) : reads M = (upm M 44 7 0, -1) := by
  have e : rdA M (M 44 6) = (upm M 44 7 0, -1) := by rw [h]; exact rdA_0 M
  exact reads_ok e (by omega)
theorem passes_0 {N : Mem} (h : N 44 7 = 0) (q : Int) : passes N q = pass2 N q := by
  unfold passes pass4 pass3
  rw [h, forR_nil (Int.le_refl _), forR_nil (Int.le_refl _), forR_nil (Int.le_refl _)]
theorem lives_0 {R : Mem} (h7 : R 44 7 = 0) (hE : EV R) : lives R 44 7 = 0 ∧ lives R 44 24 = 0 ∧ lives R 44 25 = 0 ∧ lives R 44 26 = -1 ∧ lives R 44 27 = -1 := by
  rw [lives_eq]
  have h0 := (lives0_at R (by omega)).2
  have key := forR_inv (lo := 0) (hi := 16) (f := fun q N => passes N q) (a := lives0 R) (fun _ (N : Mem) => (Fr R N ∧ N 44 7 = 0) ∧ N 44 24 = 0 ∧ N 44 25 = 0 ∧ N 44 26 = -1 ∧ N 44 27 = -1) (by omega) ⟨⟨Fr_lives0 R, by rw [(Fr_lives0 R).people]; exact h7⟩, h0⟩ (fun q N a b hN => ?_)
  · exact ⟨key.1.2, key.2⟩
  · obtain ⟨⟨hF, e7⟩, h24, h25, h26, h27⟩ := hN
    have hG := CG_pass2 (K := N) (q := q) ⟨by omega, fun p c d => by omega⟩ (hE.Fr hF) a
    have e : ∀ j, j ≠ 23 → pass2 N q 44 j = N 44 j := fun j hj => hG.2.2.2 44 j (by omega) (by omega)
    have hFr := hF.trans (Fr_passes N q)
    show (Fr R (passes N q) ∧ passes N q 44 7 = 0) ∧ passes N q 44 24 = 0 ∧ passes N q 44 25 = 0 ∧ passes N q 44 26 = -1 ∧ passes N q 44 27 = -1
    refine ⟨⟨hFr, ?_⟩, ?_⟩
    · rw [hFr.people]; exact h7
    · rw [passes_0 e7, e 24 (by omega), e 25 (by omega), e 26 (by omega), e 27 (by omega)]
      exact ⟨h24, h25, h26, h27⟩
theorem MB_M0 : MB M0 := by
  refine ⟨⟨by decide, fun i a b => ?_, by decide⟩, ⟨by decide, by decide⟩, ⟨by decide, fun i a b => ?_⟩, fun s a b => ?_⟩
  · have b' : i < 0 := b
    omega
  · have b' : i < 0 := b
    omega
  · have e1 : M0 45 s = -1 := if_pos ⟨rfl, by omega, by omega⟩
    have e2 : M0 46 s = 0 := rfl
    rw [e1, e2]
    omega
theorem Inv_M0 : Inv M0 := by
  have hr : reads M0 = (upm M0 44 7 0, -1) := reads_0 rfl
  have e7 : (reads M0).1 44 7 = 0 := by rw [hr]; rfl
  have hE : EV (reads M0).1 := by
    rw [hr]
    refine ⟨(show (0 : Int) ≤ 0 ∧ (0 : Int) ≤ 8 by omega), fun i a b => ?_, fun z => ?_⟩
    · have b' : i < 0 := b
      omega
    · have z' : (0 : Int) ≤ -1 := z
      omega
  have hl := lives_0 e7 hE
  have f7 : find M0 44 7 = 0 := hl.1
  refine ⟨⟨⟨⟨rfl, fun i a b => ?_⟩, ⟨rfl, fun i a b => ?_⟩, ⟨by decide, fun i a b => ?_⟩⟩, ⟨?_, ?_, fun p a b => ?_⟩, ⟨rfl, by decide, fun i a b => ?_⟩, ⟨⟨?_, fun p a b => ?_, trivial, ⟨?_, ?_, ?_, ?_, ?_⟩, by decide, fun p a b => ?_⟩, fun x p a b c d => ?_⟩, ⟨fun s hs => ?_, rfl⟩, Or.inl rfl⟩, MB_M0⟩
  · have b' : i < 0 := b
    omega
  · have b' : i < 0 := b
    omega
  · have b' : i < 0 := b
    omega
  · rw [hr]; rfl
  · rw [e7]; rfl
  · rw [e7] at b; omega
  · have b' : i < 0 := b
    omega
  · rw [f7]; rfl
  · rw [f7] at b; omega
  · rw [movesNow_0 (by omega) (fun k c d => by omega)]; rfl
  · exact hl.2.1.symm
  · exact hl.2.2.1.symm
  · exact hl.2.2.2.1.symm
  · exact hl.2.2.2.2.symm
  · refine ⟨fun z => absurd z (in255 (e := p) (by omega)).2, fun z => by omega⟩
  · omega
  · have e1 : M0 45 s = -1 := if_pos ⟨rfl, by omega, by omega⟩
    have e2 : M0 46 s = 0 := rfl
    rw [e1, e2]
    refine ⟨?_, ?_, fun u => by omega⟩
    · rcases (show s = 0 ∨ s = 1 ∨ s = 2 ∨ s = 3 by omega) with rfl | rfl | rfl | rfl <;> rfl
    · rcases (show s = 0 ∨ s = 1 ∨ s = 2 ∨ s = 3 by omega) with rfl | rfl | rfl | rfl <;> rfl
