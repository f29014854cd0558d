/-! ===== what is read is fit to run ===== -/
theorem rdT_50 (K : Mem) (i v j : Int) : rdT K i v 50 j = if i % 4 < 3 ∧ j = 3 * (i / 4) + i % 4 then v else K 50 j := by
  unfold rdT
  rw [rd_ne (by decide)]
  by_cases e : i % 4 < 3
  · rw [if_pos e, upm_same]
    unfold ups
    by_cases e2 : j = 3 * (i / 4) + i % 4
    · rw [if_pos e2, if_pos ⟨e, e2⟩]
    · rw [if_neg e2, if_neg (fun z => e2 z.2)]
  · rw [if_neg e, if_neg (fun z => e z.1)]
theorem byte_1 {K : Mem} {b : Int} (h : byteOf K 1 b ≠ -9) : 0 ≤ byteOf K 1 b ∧ byteOf K 1 b ≤ 7 := by
  unfold byteOf at *
  rw [if_neg (by omega), if_pos rfl] at *
  exact figureOf_r h
theorem byte_2 {K : Mem} {b : Int} (h : byteOf K 2 b ≠ -9) : isTaken K (b - 48) = 0 ∧ byteOf K 2 b = b - 48 := by
  unfold byteOf at *
  rw [if_neg (by omega), if_neg (by omega), if_pos rfl] at *
  by_cases e : isTaken K (b - 48) = 0
  · rw [if_pos e] at *
    refine ⟨e, ?_⟩
    unfold figureOf at *
    split at h
    · rename_i e2
      rw [if_pos e2]
    · omega
  · rw [if_neg e] at h
    omega
theorem rdA_fit (M : Mem) {i : Int} (hi : 0 ≤ i) : (rdA M i).2 = -1 → (∀ k, 0 ≤ k → 4 * k + 1 < i → 0 ≤ (rdA M i).1 50 (3 * k + 1) ∧ (rdA M i).1 50 (3 * k + 1) ≤ 7) ∧ (∀ a b, 0 ≤ a → 4 * a + 2 < i → 0 ≤ b → 4 * b + 2 < i → (rdA M i).1 50 (3 * a + 2) = (rdA M i).1 50 (3 * b + 2) → a = b) := by
  have key := forR_inv (lo := 0) (hi := i) (f := rdF) (a := (upm M 44 7 0, (-1 : Int))) (fun i s => s = rdA M i ∧ (s.2 = -1 → (∀ k, 0 ≤ k → 4 * k + 1 < i → 0 ≤ s.1 50 (3 * k + 1) ∧ s.1 50 (3 * k + 1) ≤ 7) ∧ (∀ a b, 0 ≤ a → 4 * a + 2 < i → 0 ≤ b → 4 * b + 2 < i → s.1 50 (3 * a + 2) = s.1 50 (3 * b + 2) → a = b))) hi ⟨(rdA_0 M).symm, fun _ => ⟨fun k a b => by omega, fun a b c d => by omega⟩⟩ (fun i s h1 h2 hs => ?_)
  · exact key.2
  · obtain ⟨es, hs⟩ := hs
    refine ⟨by rw [rdA_s M h1, es], fun h9 => ?_⟩
    by_cases hx : s.2 = -1
    · have hs := hs hx
      have hp := (rdA_people M h1 (by rw [← es]; exact hx)).1
      rw [← es] at hp
      have ex : s = (s.1, -1) := by rw [← hx]
      by_cases hb : byteOf s.1 (i % 4) (s.1 49 i) = -9
      · rw [ex, rdF_bad hb] at h9
        simp only at h9
        omega
      · rw [ex, rdF_ok hb]
        simp only
        refine ⟨fun k a b => ?_, fun a b c d e f g => ?_⟩
        · rw [rdT_50]
          by_cases e : i % 4 < 3 ∧ 3 * k + 1 = 3 * (i / 4) + i % 4
          · rw [if_pos e]
            have e1 : i % 4 = 1 := by omega
            rw [e1] at hb ⊢
            exact byte_1 hb
          · rw [if_neg e]
            exact hs.1 k a (by omega)
        · rw [rdT_50, rdT_50] at g
          by_cases e2 : i % 4 = 2
          · have hby := byte_2 (K := s.1) (b := s.1 49 i) (by rw [e2] at hb; exact hb)
            have ht := (isTaken_iff (K := s.1) (by omega)).mp hby.1
            rw [e2, hby.2] at g
            by_cases ea : a = i / 4
            · by_cases eb : b = i / 4
              · omega
              · rw [if_pos (by omega), if_neg (by omega)] at g
                exact absurd g.symm (ht b e (by omega))
            · by_cases eb : b = i / 4
              · rw [if_neg (by omega), if_pos (by omega)] at g
                exact absurd g (ht a c (by omega))
              · rw [if_neg (by omega), if_neg (by omega)] at g
                exact hs.2 a b c (by omega) e (by omega) g
          · rw [if_neg (by omega), if_neg (by omega)] at g
            exact hs.2 a b c (by omega) e (by omega) g
    · unfold rdF at h9
      rw [if_pos hx] at h9
      exact absurd h9 hx
theorem reads_IR (M : Mem) (h : 0 ≤ M 44 6 ∧ M 44 6 ≤ 31) : IR (reads M).1 := by
  have hg := reads_PG M h
  rcases reads_out M h with ho | ho
  · have hf := rdA_fit M h.1 (by rw [← ho.2.1]; exact ho.1)
    rw [← ho.2.1] at hf
    refine ⟨hg.1, fun k a b => ⟨?_, hg.2 k a b⟩, fun a b c d e f g => ?_⟩
    · rw [ho.2.2] at b
      exact hf.1 k a (by omega)
    · rw [ho.2.2] at d f
      exact hf.2 a b c (by omega) e (by omega) g
  · refine ⟨hg.1, fun k a b => ?_, fun a b c d => ?_⟩
    · rw [ho.2] at b
      omega
    · rw [ho.2] at d
      omega
