/-! ===== the reference: digest, all ===== -/
theorem c_digest (G : GT) (M : Mem) (h : MB M) : AM G yX6_digest cX6_digest 4 (some .long) 9 M [vR 44] (pL fun r M' => r = digS M ∧ Fp M M') := by
  refine AM.mk (own := RX6) rfl sv_X6_digest.1.2.2.2.2.2 (Nat.le_of_ble_eq_true rfl) rfl ?_
  refine a_ldc2 (kX6_digest.at 0 rfl) cl_X6_326 (17) rfl ⟨by decide, by decide⟩ ?_
  refine a_lstore_n (ls' := [(0, vR 44), (1, vL 17)]) (kX6_digest.at 1 rfl) (by decide) rfl ?_
  refine a_iconst (kX6_digest.at 2 rfl) rfl ?_
  refine a_istore_n (ls' := [(0, vR 44), (1, vL 17), (3, vI 0)]) (kX6_digest.at 3 rfl) (by decide) rfl ?_
  refine l_dig1 G M _ h (by omega) ?_
  intro N1 hF1
  show AW _ _ _ _ _ _ 31 [(0, vR 44), (1, vL (forR 0 8 (dg1F M) 17)), (3, vI 8)] [] N1
  have h1 := hF1.MB h
  have eR := reads_E hF1 h.1
  have hi := reads_InE hF1 h
  have hR := reads_BI h1
  have hR0 := reads_BI h
  have f0 := Ft_reads M h.1.1.1
  have f1 := Ft_reads N1 h1.1.1.1
  have e28 : (reads N1).1 44 28 = (reads M).1 44 28 := by rw [f1 44 28 (by omega) (by omega), f0 44 28 (by omega) (by omega), hF1 44 28 (by omega) (by omega) (by omega) (by omega) (by omega)]
  have e60 : ∀ j, (reads N1).1 60 j = (reads M).1 60 j := fun j => by rw [f1 60 j (by omega) (by omega), f0 60 j (by omega) (by omega), hF1 60 j (by omega) (by omega) (by omega) (by omega) (by omega)]
  refine a_ldc2 (kX6_digest.at 18 rfl) cl_X6_320 (31) rfl ⟨by decide, by decide⟩ ?_
  refine a_lload_n (kX6_digest.at 19 rfl) 1 rfl ?_
  refine a_lmul (kX6_digest.at 20 rfl) ?_
  refine a_aload_n (kX6_digest.at 21 rfl) 0 rfl ?_
  refine AW.callV (as := []) (st := [vL (wL (31 * (forR 0 8 (dg1F M) 17)))]) (kX6_digest.at 22 rfl) ml_X6_117 sv_X6_reads (k := 44) (io_44) rfl rfl ⟨Nat.le_of_ble_eq_true rfl, Nat.le_of_ble_eq_true rfl⟩ ⟨Nat.le_refl _, Nat.le_refl _⟩ rfl rfl (Nat.le_of_ble_eq_true rfl) (c_reads G N1 h1.1.1 h1.1.2.1) (kIE ?_)
  refine a_i2l (kX6_digest.at 23 rfl) ?_
  refine a_ladd (kX6_digest.at 24 rfl) ?_
  refine a_lstore_n (ls' := [(0, vR 44), (1, vL (wL ((wL (31 * (forR 0 8 (dg1F M) 17))) + ((reads N1).2)))), (3, vI 8)]) (kX6_digest.at 25 rfl) (by decide) rfl ?_
  refine a_iconst (kX6_digest.at 26 rfl) rfl ?_
  refine a_istore_n (ls' := [(0, vR 44), (1, vL (wL ((wL (31 * (forR 0 8 (dg1F M) 17))) + ((reads N1).2)))), (3, vI 0)]) (kX6_digest.at 27 rfl) (by decide) rfl ?_
  exact a_dig45 G _ _ hR.1 hR.2 _ (fun r M' h2 h3 => ⟨h2.trans ((dgT_E ⟨hi, e28, e60⟩ hR0.1 hR0.2 _).trans (by unfold digS ds; rw [eR.1])), hF1.trans ((reads_Fp h1.1).trans h3.fp)⟩)
