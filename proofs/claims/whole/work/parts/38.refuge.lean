/-! ===== the class: refuge ===== -/
theorem apart_le {a b : Int} (ha : 0 ≤ a ∧ a < 10) (hb : 0 ≤ b ∧ b ≤ 9) : apart a b ≤ 9 := by
  unfold apart
  split <;> omega
theorem apart_at {h c w : Int} (e : apart h c = w) : h = c - w ∨ h = c + w := by
  unfold apart at e
  split at e <;> omega
theorem apart_l {c w : Int} (hw : 0 ≤ w) : apart (c - w) c = w := by
  unfold apart
  split <;> omega
theorem apart_m {c w : Int} (hw : 0 ≤ w) : apart (c + w) c = w := by
  unfold apart
  split <;> omega
set_option maxHeartbeats 4000000 in
set_option maxRecDepth 100000 in
theorem l_refuge (G : GT) (M K : Mem) (t : Nat) (p : Int) (ht : t < 2) (hS : SC M t K) (hp8 : 0 ≤ K 44 7 ∧ K 44 7 ≤ 8) (hp : 0 ≤ p ∧ p < K 44 7) (hc : 0 ≤ K 52 p ∧ K 52 p ≤ 9) (h0 : ∀ h, 0 ≤ h → h < 10 → okH K p h → 1 ≤ apart h (K 52 p)) (hlohi : (1 : Int) ≤ 10) (kk : (∀ h, 0 ≤ h → h < 10 → okH K p h → 10 ≤ apart h (K 52 p)) → AW G RX1 cX1_refuge 5 (some .int) (XM G 1 (qI (best K p) M)) 93 [(0, vR (4 + t)), (1, vI p), (2, vI 10)] [] M) : AW G RX1 cX1_refuge 5 (some .int) (XM G 1 (qI (best K p) M)) 2 [(0, vR (4 + t)), (1, vI p), (2, vI 1)] [] M := by
  have key : ∀ (nn : Nat) (w : Int) , (1 : Int) ≤ w → w ≤ 10 → (∀ h, 0 ≤ h → h < 10 → okH K p h → w ≤ apart h (K 52 p)) → 10 - w < nn → AW G RX1 cX1_refuge 5 (some .int) (XM G 1 (qI (best K p) M)) 2 [(0, vR (4 + t)), (1, vI p), (2, vI w)] [] M := by
    intro nn
    induction nn with
    | zero => intro w  hk0 hk1  hI hn; omega
    | succ nn ih =>
      intro w  hk0 hk1  hI hn
      have sp := (hS.2.1 p hp.1 hp.2).2.2.1
      have ww : ∀ x, 0 ≤ x → x < 10 → M (30 + 8 * t) (x + 1) = whoIn K x := fun x a b => by rw [hS.2.2.1 (x + 1) (by omega) (by omega), show x + 1 - 1 = x by omega]
      refine a_iload_n (kX1_refuge.at 2 rfl) 2 rfl ?_
      refine a_bipush (kX1_refuge.at 3 rfl) rfl rfl ?_
      refine a_icmpge (tgt := 93) (kX1_refuge.at 4 rfl) (by decide) (fun h5 => ?_) (fun h5 => ?_)
      · obtain rfl : w = 10 := by omega
        exact kk hI
      · refine a_aload_n (kX1_refuge.at 5 rfl) 0 rfl ?_
        refine a_getR (kX1_refuge.at 6 rfl) fg_X1_18 (iR_C2 ht) ?_
        refine a_iload_n (kX1_refuge.at 7 rfl) 1 rfl ?_
        refine a_iald (x := M (26 + 8 * t) p) (kX1_refuge.at 8 rfl) (iA_C2 ht) (by omega) (rfl) ?_
        refine a_iload_n (kX1_refuge.at 9 rfl) 2 rfl ?_
        refine a_isub (kX1_refuge.at 10 rfl) (inr (by omega)) ?_
        refine a_istore_n (ls' := [(0, vR (4 + t)), (1, vI p), (2, vI w), (3, vI ((M (26 + 8 * t) p) - w))]) (kX1_refuge.at 11 rfl) (by decide) rfl ?_
        refine a_iload_n (kX1_refuge.at 12 rfl) 3 rfl ?_
        refine a_iflt (tgt := 44) (kX1_refuge.at 13 rfl) (by decide) (fun h18 => ?_) (fun h18 => ?_)
        · have nl : ¬ (0 ≤ K 52 p - w ∧ okH K p (K 52 p - w)) := fun z => by first | (exfalso; omega) | exact h30 (by rw [sp, ww _ z.1 (by omega)]; exact z.2.1) | exact z.2.2 (by rw [← sp]; exact h39)
          refine a_aload_n (kX1_refuge.at 29 rfl) 0 rfl ?_
          refine a_getR (kX1_refuge.at 30 rfl) fg_X1_18 (iR_C2 ht) ?_
          refine a_iload_n (kX1_refuge.at 31 rfl) 1 rfl ?_
          refine a_iald (x := M (26 + 8 * t) p) (kX1_refuge.at 32 rfl) (iA_C2 ht) (by omega) (rfl) ?_
          refine a_iload_n (kX1_refuge.at 33 rfl) 2 rfl ?_
          refine a_iadd (kX1_refuge.at 34 rfl) (inr (by omega)) ?_
          refine a_istore (ls' := [(0, vR (4 + t)), (1, vI p), (2, vI w), (3, vI ((M (26 + 8 * t) p) - w)), (4, vI ((M (26 + 8 * t) p) + w))]) (kX1_refuge.at 35 rfl) (by decide) rfl ?_
          refine a_iload (kX1_refuge.at 36 rfl) 4 rfl ?_
          refine a_bipush (kX1_refuge.at 37 rfl) rfl rfl ?_
          refine a_icmpge (tgt := 87) (kX1_refuge.at 38 rfl) (by decide) (fun h58 => ?_) (fun h58 => ?_)
          · have nm : ¬ (K 52 p + w < 10 ∧ okH K p (K 52 p + w)) := fun z => by first | (exfalso; omega) | exact h71 (by rw [sp, ww _ (by omega) z.1]; exact z.2.1) | exact z.2.2 (by rw [← sp]; exact h81)
            have nx : ∀ h, 0 ≤ h → h < 10 → okH K p h → w + 1 ≤ apart h (K 52 p) := fun h a b o => by
              have h1 := hI h a b o
              by_cases e : apart h (K 52 p) = w
              · rcases apart_at e with e2 | e2
                · exact absurd ⟨by omega, e2 ▸ o⟩ nl
                · exact absurd ⟨by omega, e2 ▸ o⟩ nm
              · omega
            refine a_iinc (ls' := [(0, vR (4 + t)), (1, vI p), (2, vI (w + 1)), (3, vI ((M (26 + 8 * t) p) - w)), (4, vI ((M (26 + 8 * t) p) + w))]) (kX1_refuge.at 54 rfl) 2 rfl (by decide) (inr (by omega)) rfl ?_
            refine a_goto (tgt := 2) (kX1_refuge.at 55 rfl) (by decide) ?_
            refine AW.loc (ls' := [(0, vR (4 + t)), (1, vI p), (2, vI (w + 1))]) [0, 1, 2] rfl ?_
            exact ih ((w + 1))  (by omega) (by omega) (fun h a b o => nx h a b o) (by omega)
          · refine a_aload_n (kX1_refuge.at 39 rfl) 0 rfl ?_
            refine a_getR (kX1_refuge.at 40 rfl) fg_X1_30 (iR_C6 ht) ?_
            refine a_iload (kX1_refuge.at 41 rfl) 4 rfl ?_
            refine a_iconst (kX1_refuge.at 42 rfl) rfl ?_
            refine a_iadd (kX1_refuge.at 43 rfl) (inr (by omega)) ?_
            refine a_iald (x := M (30 + 8 * t) (((M (26 + 8 * t) p) + w) + 1)) (kX1_refuge.at 44 rfl) (iA_C6 ht) (by omega) (rfl) ?_
            refine a_iconst (kX1_refuge.at 45 rfl) rfl ?_
            refine a_icmpne (tgt := 87) (kX1_refuge.at 46 rfl) (by decide) (fun h71 => ?_) (fun h71 => ?_)
            · have nm : ¬ (K 52 p + w < 10 ∧ okH K p (K 52 p + w)) := fun z => by first | (exfalso; omega) | exact h71 (by rw [sp, ww _ (by omega) z.1]; exact z.2.1) | exact z.2.2 (by rw [← sp]; exact h81)
              have nx : ∀ h, 0 ≤ h → h < 10 → okH K p h → w + 1 ≤ apart h (K 52 p) := fun h a b o => by
                have h1 := hI h a b o
                by_cases e : apart h (K 52 p) = w
                · rcases apart_at e with e2 | e2
                  · exact absurd ⟨by omega, e2 ▸ o⟩ nl
                  · exact absurd ⟨by omega, e2 ▸ o⟩ nm
                · omega
              refine a_iinc (ls' := [(0, vR (4 + t)), (1, vI p), (2, vI (w + 1)), (3, vI ((M (26 + 8 * t) p) - w)), (4, vI ((M (26 + 8 * t) p) + w))]) (kX1_refuge.at 54 rfl) 2 rfl (by decide) (inr (by omega)) rfl ?_
              refine a_goto (tgt := 2) (kX1_refuge.at 55 rfl) (by decide) ?_
              refine AW.loc (ls' := [(0, vR (4 + t)), (1, vI p), (2, vI (w + 1))]) [0, 1, 2] rfl ?_
              exact ih ((w + 1))  (by omega) (by omega) (fun h a b o => nx h a b o) (by omega)
            · refine a_aload_n (kX1_refuge.at 47 rfl) 0 rfl ?_
              refine a_iload_n (kX1_refuge.at 48 rfl) 1 rfl ?_
              refine a_iload (kX1_refuge.at 49 rfl) 4 rfl ?_
              refine AW.callV (as := [vI p, vI ((M (26 + 8 * t) p) + w)]) (st := []) (kX1_refuge.at 50 rfl) ml_X1_113 sv_X1_wouldAgree (k := (4 + t)) (iO_C ht) rfl rfl ⟨Nat.le_of_ble_eq_true rfl, Nat.le_of_ble_eq_true rfl⟩ ⟨Nat.le_refl _, Nat.le_refl _⟩ rfl rfl (Nat.le_of_ble_eq_true rfl) (k_wouldAgree G M K t p (M (26 + 8 * t) p + w) ht hS hp8 hp (by omega)) (kIE ?_)
              refine a_ifneB (tgt := 87) (kX1_refuge.at 51 rfl) (by decide) (fun h81 => ?_) (fun h81 => ?_)
              · have nm : ¬ (K 52 p + w < 10 ∧ okH K p (K 52 p + w)) := fun z => by first | (exfalso; omega) | exact h71 (by rw [sp, ww _ (by omega) z.1]; exact z.2.1) | exact z.2.2 (by rw [← sp]; exact h81)
                have nx : ∀ h, 0 ≤ h → h < 10 → okH K p h → w + 1 ≤ apart h (K 52 p) := fun h a b o => by
                  have h1 := hI h a b o
                  by_cases e : apart h (K 52 p) = w
                  · rcases apart_at e with e2 | e2
                    · exact absurd ⟨by omega, e2 ▸ o⟩ nl
                    · exact absurd ⟨by omega, e2 ▸ o⟩ nm
                  · omega
                refine a_iinc (ls' := [(0, vR (4 + t)), (1, vI p), (2, vI (w + 1)), (3, vI ((M (26 + 8 * t) p) - w)), (4, vI ((M (26 + 8 * t) p) + w))]) (kX1_refuge.at 54 rfl) 2 rfl (by decide) (inr (by omega)) rfl ?_
                refine a_goto (tgt := 2) (kX1_refuge.at 55 rfl) (by decide) ?_
                refine AW.loc (ls' := [(0, vR (4 + t)), (1, vI p), (2, vI (w + 1))]) [0, 1, 2] rfl ?_
                exact ih ((w + 1))  (by omega) (by omega) (fun h a b o => nx h a b o) (by omega)
              · refine a_iload (kX1_refuge.at 52 rfl) 4 rfl ?_
                exact a_iretE (kX1_refuge.at 53 rfl) (by rw [sp] at *; exact ⟨(best_is ⟨by omega, by omega⟩ ⟨by rw [← ww _ (by omega) (by omega)]; exact h71, h81⟩ (fun h a b o => by have h1 := hI h a b o; have h2 := apart_m (c := K 52 p) (w := w) (by omega); by_cases e : apart h (K 52 p) = w; (rcases apart_at e with e2 | e2; (exact absurd ⟨by omega, e2 ▸ o⟩ nl); (right; omega)); (left; omega))).symm, rfl⟩)
        · refine a_aload_n (kX1_refuge.at 14 rfl) 0 rfl ?_
          refine a_getR (kX1_refuge.at 15 rfl) fg_X1_30 (iR_C6 ht) ?_
          refine a_iload_n (kX1_refuge.at 16 rfl) 3 rfl ?_
          refine a_iconst (kX1_refuge.at 17 rfl) rfl ?_
          refine a_iadd (kX1_refuge.at 18 rfl) (inr (by omega)) ?_
          refine a_iald (x := M (30 + 8 * t) (((M (26 + 8 * t) p) - w) + 1)) (kX1_refuge.at 19 rfl) (iA_C6 ht) (by omega) (rfl) ?_
          refine a_iconst (kX1_refuge.at 20 rfl) rfl ?_
          refine a_icmpne (tgt := 44) (kX1_refuge.at 21 rfl) (by decide) (fun h30 => ?_) (fun h30 => ?_)
          · have nl : ¬ (0 ≤ K 52 p - w ∧ okH K p (K 52 p - w)) := fun z => by first | (exfalso; omega) | exact h30 (by rw [sp, ww _ z.1 (by omega)]; exact z.2.1) | exact z.2.2 (by rw [← sp]; exact h39)
            refine a_aload_n (kX1_refuge.at 29 rfl) 0 rfl ?_
            refine a_getR (kX1_refuge.at 30 rfl) fg_X1_18 (iR_C2 ht) ?_
            refine a_iload_n (kX1_refuge.at 31 rfl) 1 rfl ?_
            refine a_iald (x := M (26 + 8 * t) p) (kX1_refuge.at 32 rfl) (iA_C2 ht) (by omega) (rfl) ?_
            refine a_iload_n (kX1_refuge.at 33 rfl) 2 rfl ?_
            refine a_iadd (kX1_refuge.at 34 rfl) (inr (by omega)) ?_
            refine a_istore (ls' := [(0, vR (4 + t)), (1, vI p), (2, vI w), (3, vI ((M (26 + 8 * t) p) - w)), (4, vI ((M (26 + 8 * t) p) + w))]) (kX1_refuge.at 35 rfl) (by decide) rfl ?_
            refine a_iload (kX1_refuge.at 36 rfl) 4 rfl ?_
            refine a_bipush (kX1_refuge.at 37 rfl) rfl rfl ?_
            refine a_icmpge (tgt := 87) (kX1_refuge.at 38 rfl) (by decide) (fun h58 => ?_) (fun h58 => ?_)
            · have nm : ¬ (K 52 p + w < 10 ∧ okH K p (K 52 p + w)) := fun z => by first | (exfalso; omega) | exact h71 (by rw [sp, ww _ (by omega) z.1]; exact z.2.1) | exact z.2.2 (by rw [← sp]; exact h81)
              have nx : ∀ h, 0 ≤ h → h < 10 → okH K p h → w + 1 ≤ apart h (K 52 p) := fun h a b o => by
                have h1 := hI h a b o
                by_cases e : apart h (K 52 p) = w
                · rcases apart_at e with e2 | e2
                  · exact absurd ⟨by omega, e2 ▸ o⟩ nl
                  · exact absurd ⟨by omega, e2 ▸ o⟩ nm
                · omega
              refine a_iinc (ls' := [(0, vR (4 + t)), (1, vI p), (2, vI (w + 1)), (3, vI ((M (26 + 8 * t) p) - w)), (4, vI ((M (26 + 8 * t) p) + w))]) (kX1_refuge.at 54 rfl) 2 rfl (by decide) (inr (by omega)) rfl ?_
              refine a_goto (tgt := 2) (kX1_refuge.at 55 rfl) (by decide) ?_
              refine AW.loc (ls' := [(0, vR (4 + t)), (1, vI p), (2, vI (w + 1))]) [0, 1, 2] rfl ?_
              exact ih ((w + 1))  (by omega) (by omega) (fun h a b o => nx h a b o) (by omega)
            · refine a_aload_n (kX1_refuge.at 39 rfl) 0 rfl ?_
              refine a_getR (kX1_refuge.at 40 rfl) fg_X1_30 (iR_C6 ht) ?_
              refine a_iload (kX1_refuge.at 41 rfl) 4 rfl ?_
              refine a_iconst (kX1_refuge.at 42 rfl) rfl ?_
              refine a_iadd (kX1_refuge.at 43 rfl) (inr (by omega)) ?_
              refine a_iald (x := M (30 + 8 * t) (((M (26 + 8 * t) p) + w) + 1)) (kX1_refuge.at 44 rfl) (iA_C6 ht) (by omega) (rfl) ?_
              refine a_iconst (kX1_refuge.at 45 rfl) rfl ?_
              refine a_icmpne (tgt := 87) (kX1_refuge.at 46 rfl) (by decide) (fun h71 => ?_) (fun h71 => ?_)
              · have nm : ¬ (K 52 p + w < 10 ∧ okH K p (K 52 p + w)) := fun z => by first | (exfalso; omega) | exact h71 (by rw [sp, ww _ (by omega) z.1]; exact z.2.1) | exact z.2.2 (by rw [← sp]; exact h81)
                have nx : ∀ h, 0 ≤ h → h < 10 → okH K p h → w + 1 ≤ apart h (K 52 p) := fun h a b o => by
                  have h1 := hI h a b o
                  by_cases e : apart h (K 52 p) = w
                  · rcases apart_at e with e2 | e2
                    · exact absurd ⟨by omega, e2 ▸ o⟩ nl
                    · exact absurd ⟨by omega, e2 ▸ o⟩ nm
                  · omega
                refine a_iinc (ls' := [(0, vR (4 + t)), (1, vI p), (2, vI (w + 1)), (3, vI ((M (26 + 8 * t) p) - w)), (4, vI ((M (26 + 8 * t) p) + w))]) (kX1_refuge.at 54 rfl) 2 rfl (by decide) (inr (by omega)) rfl ?_
                refine a_goto (tgt := 2) (kX1_refuge.at 55 rfl) (by decide) ?_
                refine AW.loc (ls' := [(0, vR (4 + t)), (1, vI p), (2, vI (w + 1))]) [0, 1, 2] rfl ?_
                exact ih ((w + 1))  (by omega) (by omega) (fun h a b o => nx h a b o) (by omega)
              · refine a_aload_n (kX1_refuge.at 47 rfl) 0 rfl ?_
                refine a_iload_n (kX1_refuge.at 48 rfl) 1 rfl ?_
                refine a_iload (kX1_refuge.at 49 rfl) 4 rfl ?_
                refine AW.callV (as := [vI p, vI ((M (26 + 8 * t) p) + w)]) (st := []) (kX1_refuge.at 50 rfl) ml_X1_113 sv_X1_wouldAgree (k := (4 + t)) (iO_C ht) rfl rfl ⟨Nat.le_of_ble_eq_true rfl, Nat.le_of_ble_eq_true rfl⟩ ⟨Nat.le_refl _, Nat.le_refl _⟩ rfl rfl (Nat.le_of_ble_eq_true rfl) (k_wouldAgree G M K t p (M (26 + 8 * t) p + w) ht hS hp8 hp (by omega)) (kIE ?_)
                refine a_ifneB (tgt := 87) (kX1_refuge.at 51 rfl) (by decide) (fun h81 => ?_) (fun h81 => ?_)
                · have nm : ¬ (K 52 p + w < 10 ∧ okH K p (K 52 p + w)) := fun z => by first | (exfalso; omega) | exact h71 (by rw [sp, ww _ (by omega) z.1]; exact z.2.1) | exact z.2.2 (by rw [← sp]; exact h81)
                  have nx : ∀ h, 0 ≤ h → h < 10 → okH K p h → w + 1 ≤ apart h (K 52 p) := fun h a b o => by
                    have h1 := hI h a b o
                    by_cases e : apart h (K 52 p) = w
                    · rcases apart_at e with e2 | e2
                      · exact absurd ⟨by omega, e2 ▸ o⟩ nl
                      · exact absurd ⟨by omega, e2 ▸ o⟩ nm
                    · omega
                  refine a_iinc (ls' := [(0, vR (4 + t)), (1, vI p), (2, vI (w + 1)), (3, vI ((M (26 + 8 * t) p) - w)), (4, vI ((M (26 + 8 * t) p) + w))]) (kX1_refuge.at 54 rfl) 2 rfl (by decide) (inr (by omega)) rfl ?_
                  refine a_goto (tgt := 2) (kX1_refuge.at 55 rfl) (by decide) ?_
                  refine AW.loc (ls' := [(0, vR (4 + t)), (1, vI p), (2, vI (w + 1))]) [0, 1, 2] rfl ?_
                  exact ih ((w + 1))  (by omega) (by omega) (fun h a b o => nx h a b o) (by omega)
                · refine a_iload (kX1_refuge.at 52 rfl) 4 rfl ?_
                  exact a_iretE (kX1_refuge.at 53 rfl) (by rw [sp] at *; exact ⟨(best_is ⟨by omega, by omega⟩ ⟨by rw [← ww _ (by omega) (by omega)]; exact h71, h81⟩ (fun h a b o => by have h1 := hI h a b o; have h2 := apart_m (c := K 52 p) (w := w) (by omega); by_cases e : apart h (K 52 p) = w; (rcases apart_at e with e2 | e2; (exact absurd ⟨by omega, e2 ▸ o⟩ nl); (right; omega)); (left; omega))).symm, rfl⟩)
          · refine a_aload_n (kX1_refuge.at 22 rfl) 0 rfl ?_
            refine a_iload_n (kX1_refuge.at 23 rfl) 1 rfl ?_
            refine a_iload_n (kX1_refuge.at 24 rfl) 3 rfl ?_
            refine AW.callV (as := [vI p, vI ((M (26 + 8 * t) p) - w)]) (st := []) (kX1_refuge.at 25 rfl) ml_X1_113 sv_X1_wouldAgree (k := (4 + t)) (iO_C ht) rfl rfl ⟨Nat.le_of_ble_eq_true rfl, Nat.le_of_ble_eq_true rfl⟩ ⟨Nat.le_refl _, Nat.le_refl _⟩ rfl rfl (Nat.le_of_ble_eq_true rfl) (k_wouldAgree G M K t p (M (26 + 8 * t) p - w) ht hS hp8 hp (by omega)) (kIE ?_)
            refine a_ifneB (tgt := 44) (kX1_refuge.at 26 rfl) (by decide) (fun h39 => ?_) (fun h39 => ?_)
            · have nl : ¬ (0 ≤ K 52 p - w ∧ okH K p (K 52 p - w)) := fun z => by first | (exfalso; omega) | exact h30 (by rw [sp, ww _ z.1 (by omega)]; exact z.2.1) | exact z.2.2 (by rw [← sp]; exact h39)
              refine a_aload_n (kX1_refuge.at 29 rfl) 0 rfl ?_
              refine a_getR (kX1_refuge.at 30 rfl) fg_X1_18 (iR_C2 ht) ?_
              refine a_iload_n (kX1_refuge.at 31 rfl) 1 rfl ?_
              refine a_iald (x := M (26 + 8 * t) p) (kX1_refuge.at 32 rfl) (iA_C2 ht) (by omega) (rfl) ?_
              refine a_iload_n (kX1_refuge.at 33 rfl) 2 rfl ?_
              refine a_iadd (kX1_refuge.at 34 rfl) (inr (by omega)) ?_
              refine a_istore (ls' := [(0, vR (4 + t)), (1, vI p), (2, vI w), (3, vI ((M (26 + 8 * t) p) - w)), (4, vI ((M (26 + 8 * t) p) + w))]) (kX1_refuge.at 35 rfl) (by decide) rfl ?_
              refine a_iload (kX1_refuge.at 36 rfl) 4 rfl ?_
              refine a_bipush (kX1_refuge.at 37 rfl) rfl rfl ?_
              refine a_icmpge (tgt := 87) (kX1_refuge.at 38 rfl) (by decide) (fun h58 => ?_) (fun h58 => ?_)
              · have nm : ¬ (K 52 p + w < 10 ∧ okH K p (K 52 p + w)) := fun z => by first | (exfalso; omega) | exact h71 (by rw [sp, ww _ (by omega) z.1]; exact z.2.1) | exact z.2.2 (by rw [← sp]; exact h81)
                have nx : ∀ h, 0 ≤ h → h < 10 → okH K p h → w + 1 ≤ apart h (K 52 p) := fun h a b o => by
                  have h1 := hI h a b o
                  by_cases e : apart h (K 52 p) = w
                  · rcases apart_at e with e2 | e2
                    · exact absurd ⟨by omega, e2 ▸ o⟩ nl
                    · exact absurd ⟨by omega, e2 ▸ o⟩ nm
                  · omega
                refine a_iinc (ls' := [(0, vR (4 + t)), (1, vI p), (2, vI (w + 1)), (3, vI ((M (26 + 8 * t) p) - w)), (4, vI ((M (26 + 8 * t) p) + w))]) (kX1_refuge.at 54 rfl) 2 rfl (by decide) (inr (by omega)) rfl ?_
                refine a_goto (tgt := 2) (kX1_refuge.at 55 rfl) (by decide) ?_
                refine AW.loc (ls' := [(0, vR (4 + t)), (1, vI p), (2, vI (w + 1))]) [0, 1, 2] rfl ?_
                exact ih ((w + 1))  (by omega) (by omega) (fun h a b o => nx h a b o) (by omega)
              · refine a_aload_n (kX1_refuge.at 39 rfl) 0 rfl ?_
                refine a_getR (kX1_refuge.at 40 rfl) fg_X1_30 (iR_C6 ht) ?_
                refine a_iload (kX1_refuge.at 41 rfl) 4 rfl ?_
                refine a_iconst (kX1_refuge.at 42 rfl) rfl ?_
                refine a_iadd (kX1_refuge.at 43 rfl) (inr (by omega)) ?_
                refine a_iald (x := M (30 + 8 * t) (((M (26 + 8 * t) p) + w) + 1)) (kX1_refuge.at 44 rfl) (iA_C6 ht) (by omega) (rfl) ?_
                refine a_iconst (kX1_refuge.at 45 rfl) rfl ?_
                refine a_icmpne (tgt := 87) (kX1_refuge.at 46 rfl) (by decide) (fun h71 => ?_) (fun h71 => ?_)
                · have nm : ¬ (K 52 p + w < 10 ∧ okH K p (K 52 p + w)) := fun z => by first | (exfalso; omega) | exact h71 (by rw [sp, ww _ (by omega) z.1]; exact z.2.1) | exact z.2.2 (by rw [← sp]; exact h81)
                  have nx : ∀ h, 0 ≤ h → h < 10 → okH K p h → w + 1 ≤ apart h (K 52 p) := fun h a b o => by
                    have h1 := hI h a b o
                    by_cases e : apart h (K 52 p) = w
                    · rcases apart_at e with e2 | e2
                      · exact absurd ⟨by omega, e2 ▸ o⟩ nl
                      · exact absurd ⟨by omega, e2 ▸ o⟩ nm
                    · omega
                  refine a_iinc (ls' := [(0, vR (4 + t)), (1, vI p), (2, vI (w + 1)), (3, vI ((M (26 + 8 * t) p) - w)), (4, vI ((M (26 + 8 * t) p) + w))]) (kX1_refuge.at 54 rfl) 2 rfl (by decide) (inr (by omega)) rfl ?_
                  refine a_goto (tgt := 2) (kX1_refuge.at 55 rfl) (by decide) ?_
                  refine AW.loc (ls' := [(0, vR (4 + t)), (1, vI p), (2, vI (w + 1))]) [0, 1, 2] rfl ?_
                  exact ih ((w + 1))  (by omega) (by omega) (fun h a b o => nx h a b o) (by omega)
                · refine a_aload_n (kX1_refuge.at 47 rfl) 0 rfl ?_
                  refine a_iload_n (kX1_refuge.at 48 rfl) 1 rfl ?_
                  refine a_iload (kX1_refuge.at 49 rfl) 4 rfl ?_
                  refine AW.callV (as := [vI p, vI ((M (26 + 8 * t) p) + w)]) (st := []) (kX1_refuge.at 50 rfl) ml_X1_113 sv_X1_wouldAgree (k := (4 + t)) (iO_C ht) rfl rfl ⟨Nat.le_of_ble_eq_true rfl, Nat.le_of_ble_eq_true rfl⟩ ⟨Nat.le_refl _, Nat.le_refl _⟩ rfl rfl (Nat.le_of_ble_eq_true rfl) (k_wouldAgree G M K t p (M (26 + 8 * t) p + w) ht hS hp8 hp (by omega)) (kIE ?_)
                  refine a_ifneB (tgt := 87) (kX1_refuge.at 51 rfl) (by decide) (fun h81 => ?_) (fun h81 => ?_)
                  · have nm : ¬ (K 52 p + w < 10 ∧ okH K p (K 52 p + w)) := fun z => by first | (exfalso; omega) | exact h71 (by rw [sp, ww _ (by omega) z.1]; exact z.2.1) | exact z.2.2 (by rw [← sp]; exact h81)
                    have nx : ∀ h, 0 ≤ h → h < 10 → okH K p h → w + 1 ≤ apart h (K 52 p) := fun h a b o => by
                      have h1 := hI h a b o
                      by_cases e : apart h (K 52 p) = w
                      · rcases apart_at e with e2 | e2
                        · exact absurd ⟨by omega, e2 ▸ o⟩ nl
                        · exact absurd ⟨by omega, e2 ▸ o⟩ nm
                      · omega
                    refine a_iinc (ls' := [(0, vR (4 + t)), (1, vI p), (2, vI (w + 1)), (3, vI ((M (26 + 8 * t) p) - w)), (4, vI ((M (26 + 8 * t) p) + w))]) (kX1_refuge.at 54 rfl) 2 rfl (by decide) (inr (by omega)) rfl ?_
                    refine a_goto (tgt := 2) (kX1_refuge.at 55 rfl) (by decide) ?_
                    refine AW.loc (ls' := [(0, vR (4 + t)), (1, vI p), (2, vI (w + 1))]) [0, 1, 2] rfl ?_
                    exact ih ((w + 1))  (by omega) (by omega) (fun h a b o => nx h a b o) (by omega)
                  · refine a_iload (kX1_refuge.at 52 rfl) 4 rfl ?_
                    exact a_iretE (kX1_refuge.at 53 rfl) (by rw [sp] at *; exact ⟨(best_is ⟨by omega, by omega⟩ ⟨by rw [← ww _ (by omega) (by omega)]; exact h71, h81⟩ (fun h a b o => by have h1 := hI h a b o; have h2 := apart_m (c := K 52 p) (w := w) (by omega); by_cases e : apart h (K 52 p) = w; (rcases apart_at e with e2 | e2; (exact absurd ⟨by omega, e2 ▸ o⟩ nl); (right; omega)); (left; omega))).symm, rfl⟩)
            · refine a_iload_n (kX1_refuge.at 27 rfl) 3 rfl ?_
              exact a_iretE (kX1_refuge.at 28 rfl) (by rw [sp] at *; exact ⟨(best_is ⟨by omega, by omega⟩ ⟨by rw [← ww _ (by omega) (by omega)]; exact h30, h39⟩ (fun h a b o => by have h1 := hI h a b o; have h2 := apart_l (c := K 52 p) (w := w) (by omega); by_cases e : apart h (K 52 p) = w; (rcases apart_at e with e2 | e2 <;> (right; omega)); (left; omega))).symm, rfl⟩)
  exact key ((10) - (1) + 1 : Int).toNat (1)  (Int.le_refl _) hlohi  (h0) (by omega)
theorem k_refuge (G : GT) (M K : Mem) (t : Nat) (p : Int) (ht : t < 2) (hS : SC M t K) (hp8 : 0 ≤ K 44 7 ∧ K 44 7 ≤ 8) (hD : DI K) (hp : 0 ≤ p ∧ p < K 44 7) (hc : 0 ≤ K 52 p ∧ K 52 p ≤ 9) : AM G yX1_refuge cX1_refuge 5 (some .int) 1 M [vR (4 + t), vI p] (qI (best K p) M) := by
  refine AM.mk (own := RX1) rfl sv_X1_refuge.1.2.2.2.2.2 (Nat.le_of_ble_eq_true rfl) rfl ?_
  have h0 : ∀ h, 0 ≤ h → h < 10 → okH K p h → 1 ≤ apart h (K 52 p) := fun h a b o => by
    by_cases e : h = K 52 p
    · have := whoIn_at hD hp e.symm
      have := o.1
      omega
    · unfold apart
      split <;> omega
  refine a_iconst (kX1_refuge.at 0 rfl) rfl ?_
  refine a_istore_n (ls' := [(0, vR (4 + t)), (1, vI p), (2, vI 1)]) (kX1_refuge.at 1 rfl) (by decide) rfl ?_
  refine l_refuge G M K t p ht hS hp8 hp hc h0 (by omega) ?_
  intro hI
  show AW _ _ _ _ _ _ 93 [(0, vR (4 + t)), (1, vI p), (2, vI 10)] [] M
  refine a_iconst (kX1_refuge.at 56 rfl) rfl ?_
  exact a_iretE (kX1_refuge.at 57 rfl) (⟨(best_none fun h a b o => by have := hI h a b o; have := apart_le ⟨a, b⟩ hc; omega).symm, rfl⟩)
