/-! ===== the reference: digest, second half ===== -/
theorem a_dig45 (G : GT) (M : Mem) (h0 : Int) (hB : BI M) (hQ : QI M) (P : Int → Mem → Prop) (hP : ∀ r M', r = dgT M h0 → Fq M M' → P r M') : AW G RX6 cX6_digest 4 (some .long) (XM G 9 (pL P)) 45 [(0, vR 44), (1, vL h0), (3, vI 0)] [] M := by
  have hp := hB.1.1.1
  refine l_dig2 G M h0 _ hB hQ (by omega) ?_
  intro N1 hF1
  show AW _ _ _ _ _ _ 66 [(0, vR 44), (1, vL (forR 0 (M 44 7) (dg2F M) h0)), (3, vI (M 44 7))] [] N1
  have hB1 := hB.Fq hF1
  have hQ1 := hQ.Fq hF1
  have i1 := hF1.ie hB.2.2
  have hH := lives_HB hB1.1.1
  have hF2 := hF1.trans (Fr_lives N1).q
  have hB2 := hB.Fq hF2
  have i2 := hF2.ie hB.2.2
  refine a_aload_n (kX6_digest.at 39 rfl) 0 rfl ?_
  refine AW.callV (as := []) (st := []) (kX6_digest.at 40 rfl) ml_X6_200 sv_X6_lives (k := 44) (io_44) rfl rfl ⟨Nat.le_of_ble_eq_true rfl, Nat.le_of_ble_eq_true rfl⟩ ⟨Nat.le_refl _, Nat.le_refl _⟩ rfl rfl (Nat.le_of_ble_eq_true rfl) (c_lives G N1 hB1.1.1 hB1.1.2) (kVE ?_)
  refine a_iconst (kX6_digest.at 41 rfl) rfl ?_
  refine a_istore_n (ls' := [(0, vR 44), (1, vL (forR 0 (M 44 7) (dg2F M) h0)), (3, vI 0)]) (kX6_digest.at 42 rfl) (by decide) rfl ?_
  refine l_dig3 G (lives N1) _ _ hH (by omega) ?_
  show AW _ _ _ _ _ _ 112 [(0, vR 44), (1, vL (forR 0 16 (dg3F (lives N1)) (forR 0 (M 44 7) (dg2F M) h0))), (3, vI 16)] [] (lives N1)
  refine a_iconst (kX6_digest.at 68 rfl) rfl ?_
  refine a_istore_n (ls' := [(0, vR 44), (1, vL (forR 0 16 (dg3F (lives N1)) (forR 0 (M 44 7) (dg2F M) h0))), (3, vI 0)]) (kX6_digest.at 69 rfl) (by decide) rfl ?_
  refine l_dig4 G (lives N1) _ _ hH (by omega) ?_
  show AW _ _ _ _ _ _ 156 [(0, vR 44), (1, vL (forR 0 10 (dg4F (lives N1)) (forR 0 16 (dg3F (lives N1)) (forR 0 (M 44 7) (dg2F M) h0)))), (3, vI 10)] [] (lives N1)
  refine a_ldc2 (kX6_digest.at 95 rfl) cl_X6_320 (31) rfl ⟨by decide, by decide⟩ ?_
  refine a_lload_n (kX6_digest.at 96 rfl) 1 rfl ?_
  refine a_lmul (kX6_digest.at 97 rfl) ?_
  refine a_aload_n (kX6_digest.at 98 rfl) 0 rfl ?_
  refine a_getI (x := (lives N1) 44 26) (kX6_digest.at 99 rfl) fg_X6_168 ii_44_26 (rfl) ?_
  refine a_i2l (kX6_digest.at 100 rfl) ?_
  refine a_ladd (kX6_digest.at 101 rfl) ?_
  refine a_lstore_n (ls' := [(0, vR 44), (1, vL (wL ((wL (31 * (forR 0 10 (dg4F (lives N1)) (forR 0 16 (dg3F (lives N1)) (forR 0 (M 44 7) (dg2F M) h0))))) + ((lives N1) 44 26)))), (3, vI 10)]) (kX6_digest.at 102 rfl) (by decide) rfl ?_
  refine a_ldc2 (kX6_digest.at 103 rfl) cl_X6_320 (31) rfl ⟨by decide, by decide⟩ ?_
  refine a_lload_n (kX6_digest.at 104 rfl) 1 rfl ?_
  refine a_lmul (kX6_digest.at 105 rfl) ?_
  refine a_aload_n (kX6_digest.at 106 rfl) 0 rfl ?_
  refine a_getI (x := (lives N1) 44 27) (kX6_digest.at 107 rfl) fg_X6_171 ii_44_27 (rfl) ?_
  refine a_i2l (kX6_digest.at 108 rfl) ?_
  refine a_ladd (kX6_digest.at 109 rfl) ?_
  refine a_lstore_n (ls' := [(0, vR 44), (1, vL (wL ((wL (31 * (wL ((wL (31 * (forR 0 10 (dg4F (lives N1)) (forR 0 16 (dg3F (lives N1)) (forR 0 (M 44 7) (dg2F M) h0))))) + ((lives N1) 44 26))))) + ((lives N1) 44 27)))), (3, vI 10)]) (kX6_digest.at 110 rfl) (by decide) rfl ?_
  refine a_ldc2 (kX6_digest.at 111 rfl) cl_X6_320 (31) rfl ⟨by decide, by decide⟩ ?_
  refine a_lload_n (kX6_digest.at 112 rfl) 1 rfl ?_
  refine a_lmul (kX6_digest.at 113 rfl) ?_
  refine a_aload_n (kX6_digest.at 114 rfl) 0 rfl ?_
  refine a_iconst (kX6_digest.at 115 rfl) rfl ?_
  refine AW.callV (as := [vI 0]) (st := [vL (wL (31 * (wL ((wL (31 * (wL ((wL (31 * (forR 0 10 (dg4F (lives N1)) (forR 0 16 (dg3F (lives N1)) (forR 0 (M 44 7) (dg2F M) h0))))) + ((lives N1) 44 26))))) + ((lives N1) 44 27)))))]) (kX6_digest.at 116 rfl) ml_X6_252 sv_X6_restBy (k := 44) (io_44) rfl rfl ⟨Nat.le_of_ble_eq_true rfl, Nat.le_of_ble_eq_true rfl⟩ ⟨Nat.le_refl _, Nat.le_refl _⟩ rfl rfl (Nat.le_of_ble_eq_true rfl) (c_restBy G (lives N1) 0 hB2) (kI fun r N3 hr => ?_)
  obtain ⟨er, hq3⟩ := hr
  rw [er, restS_E i2.1 hB]
  have hF3 := hF2.trans hq3
  have i3 := hF3.ie hB.2.2
  refine a_i2l (kX6_digest.at 117 rfl) ?_
  refine a_ladd (kX6_digest.at 118 rfl) ?_
  refine a_lstore_n (ls' := [(0, vR 44), (1, vL (wL ((wL (31 * (wL ((wL (31 * (wL ((wL (31 * (forR 0 10 (dg4F (lives N1)) (forR 0 16 (dg3F (lives N1)) (forR 0 (M 44 7) (dg2F M) h0))))) + ((lives N1) 44 26))))) + ((lives N1) 44 27))))) + (restS M 0)))), (3, vI 10)]) (kX6_digest.at 119 rfl) (by decide) rfl ?_
  refine a_ldc2 (kX6_digest.at 120 rfl) cl_X6_320 (31) rfl ⟨by decide, by decide⟩ ?_
  refine a_lload_n (kX6_digest.at 121 rfl) 1 rfl ?_
  refine a_lmul (kX6_digest.at 122 rfl) ?_
  refine a_aload_n (kX6_digest.at 123 rfl) 0 rfl ?_
  refine a_iconst (kX6_digest.at 124 rfl) rfl ?_
  refine AW.callV (as := [vI 1]) (st := [vL (wL (31 * (wL ((wL (31 * (wL ((wL (31 * (wL ((wL (31 * (forR 0 10 (dg4F (lives N1)) (forR 0 16 (dg3F (lives N1)) (forR 0 (M 44 7) (dg2F M) h0))))) + ((lives N1) 44 26))))) + ((lives N1) 44 27))))) + (restS M 0)))))]) (kX6_digest.at 125 rfl) ml_X6_252 sv_X6_restBy (k := 44) (io_44) rfl rfl ⟨Nat.le_of_ble_eq_true rfl, Nat.le_of_ble_eq_true rfl⟩ ⟨Nat.le_refl _, Nat.le_refl _⟩ rfl rfl (Nat.le_of_ble_eq_true rfl) (c_restBy G N3 1 (hB.Fq hF3)) (kI fun r N4 hr => ?_)
  obtain ⟨er, hq4⟩ := hr
  rw [er, restS_E i3.1 hB]
  have hF4 := hF3.trans hq4
  have i4 := hF4.ie hB.2.2
  refine a_i2l (kX6_digest.at 126 rfl) ?_
  refine a_ladd (kX6_digest.at 127 rfl) ?_
  refine a_lstore_n (ls' := [(0, vR 44), (1, vL (wL ((wL (31 * (wL ((wL (31 * (wL ((wL (31 * (wL ((wL (31 * (forR 0 10 (dg4F (lives N1)) (forR 0 16 (dg3F (lives N1)) (forR 0 (M 44 7) (dg2F M) h0))))) + ((lives N1) 44 26))))) + ((lives N1) 44 27))))) + (restS M 0))))) + (restS M 1)))), (3, vI 10)]) (kX6_digest.at 128 rfl) (by decide) rfl ?_
  refine a_ldc2 (kX6_digest.at 129 rfl) cl_X6_320 (31) rfl ⟨by decide, by decide⟩ ?_
  refine a_lload_n (kX6_digest.at 130 rfl) 1 rfl ?_
  refine a_lmul (kX6_digest.at 131 rfl) ?_
  refine a_aload_n (kX6_digest.at 132 rfl) 0 rfl ?_
  refine a_iconst (kX6_digest.at 133 rfl) rfl ?_
  refine AW.callV (as := [vI (-1)]) (st := [vL (wL (31 * (wL ((wL (31 * (wL ((wL (31 * (wL ((wL (31 * (wL ((wL (31 * (forR 0 10 (dg4F (lives N1)) (forR 0 16 (dg3F (lives N1)) (forR 0 (M 44 7) (dg2F M) h0))))) + ((lives N1) 44 26))))) + ((lives N1) 44 27))))) + (restS M 0))))) + (restS M 1)))))]) (kX6_digest.at 134 rfl) ml_X6_260 sv_X6_spareBy (k := 44) (io_44) rfl rfl ⟨Nat.le_of_ble_eq_true rfl, Nat.le_of_ble_eq_true rfl⟩ ⟨Nat.le_refl _, Nat.le_refl _⟩ rfl rfl (Nat.le_of_ble_eq_true rfl) (c_spareBy G N4 (-1) (hB.Fq hF4)) (kI fun r N5 hr => ?_)
  obtain ⟨er, hq5⟩ := hr
  rw [er, spareS_E i4.1 hB]
  have hF5 := hF4.trans hq5
  have i5 := hF5.ie hB.2.2
  refine a_i2l (kX6_digest.at 135 rfl) ?_
  refine a_ladd (kX6_digest.at 136 rfl) ?_
  refine a_lstore_n (ls' := [(0, vR 44), (1, vL (wL ((wL (31 * (wL ((wL (31 * (wL ((wL (31 * (wL ((wL (31 * (wL ((wL (31 * (forR 0 10 (dg4F (lives N1)) (forR 0 16 (dg3F (lives N1)) (forR 0 (M 44 7) (dg2F M) h0))))) + ((lives N1) 44 26))))) + ((lives N1) 44 27))))) + (restS M 0))))) + (restS M 1))))) + (spareS M (-1))))), (3, vI 10)]) (kX6_digest.at 137 rfl) (by decide) rfl ?_
  refine a_ldc2 (kX6_digest.at 138 rfl) cl_X6_320 (31) rfl ⟨by decide, by decide⟩ ?_
  refine a_lload_n (kX6_digest.at 139 rfl) 1 rfl ?_
  refine a_lmul (kX6_digest.at 140 rfl) ?_
  refine a_aload_n (kX6_digest.at 141 rfl) 0 rfl ?_
  refine a_iconst (kX6_digest.at 142 rfl) rfl ?_
  refine AW.callV (as := [vI 0]) (st := [vL (wL (31 * (wL ((wL (31 * (wL ((wL (31 * (wL ((wL (31 * (wL ((wL (31 * (wL ((wL (31 * (forR 0 10 (dg4F (lives N1)) (forR 0 16 (dg3F (lives N1)) (forR 0 (M 44 7) (dg2F M) h0))))) + ((lives N1) 44 26))))) + ((lives N1) 44 27))))) + (restS M 0))))) + (restS M 1))))) + (spareS M (-1))))))]) (kX6_digest.at 143 rfl) ml_X6_260 sv_X6_spareBy (k := 44) (io_44) rfl rfl ⟨Nat.le_of_ble_eq_true rfl, Nat.le_of_ble_eq_true rfl⟩ ⟨Nat.le_refl _, Nat.le_refl _⟩ rfl rfl (Nat.le_of_ble_eq_true rfl) (c_spareBy G N5 0 (hB.Fq hF5)) (kI fun r N6 hr => ?_)
  obtain ⟨er, hq6⟩ := hr
  rw [er, spareS_E i5.1 hB]
  have hF6 := hF5.trans hq6
  have i6 := hF6.ie hB.2.2
  refine a_i2l (kX6_digest.at 144 rfl) ?_
  refine a_ladd (kX6_digest.at 145 rfl) ?_
  refine a_lstore_n (ls' := [(0, vR 44), (1, vL (wL ((wL (31 * (wL ((wL (31 * (wL ((wL (31 * (wL ((wL (31 * (wL ((wL (31 * (wL ((wL (31 * (forR 0 10 (dg4F (lives N1)) (forR 0 16 (dg3F (lives N1)) (forR 0 (M 44 7) (dg2F M) h0))))) + ((lives N1) 44 26))))) + ((lives N1) 44 27))))) + (restS M 0))))) + (restS M 1))))) + (spareS M (-1)))))) + (spareS M 0)))), (3, vI 10)]) (kX6_digest.at 146 rfl) (by decide) rfl ?_
  refine a_ldc2 (kX6_digest.at 147 rfl) cl_X6_320 (31) rfl ⟨by decide, by decide⟩ ?_
  refine a_lload_n (kX6_digest.at 148 rfl) 1 rfl ?_
  refine a_lmul (kX6_digest.at 149 rfl) ?_
  refine a_aload_n (kX6_digest.at 150 rfl) 0 rfl ?_
  refine AW.callV (as := []) (st := [vL (wL (31 * (wL ((wL (31 * (wL ((wL (31 * (wL ((wL (31 * (wL ((wL (31 * (wL ((wL (31 * (wL ((wL (31 * (forR 0 10 (dg4F (lives N1)) (forR 0 16 (dg3F (lives N1)) (forR 0 (M 44 7) (dg2F M) h0))))) + ((lives N1) 44 26))))) + ((lives N1) 44 27))))) + (restS M 0))))) + (restS M 1))))) + (spareS M (-1)))))) + (spareS M 0)))))]) (kX6_digest.at 151 rfl) ml_X6_270 sv_X6_neverNow (k := 44) (io_44) rfl rfl ⟨Nat.le_of_ble_eq_true rfl, Nat.le_of_ble_eq_true rfl⟩ ⟨Nat.le_refl _, Nat.le_refl _⟩ rfl rfl (Nat.le_of_ble_eq_true rfl) (c_neverNow G N6 (hB.Fq hF6) (hQ.Fq hF6)) (kI fun r N7 hr => ?_)
  obtain ⟨er, hq7⟩ := hr
  rw [er, neverS_E i6 hB hQ]
  have hF7 := hF6.trans hq7
  have i7 := hF7.ie hB.2.2
  refine a_i2l (kX6_digest.at 152 rfl) ?_
  refine a_ladd (kX6_digest.at 153 rfl) ?_
  refine a_lstore_n (ls' := [(0, vR 44), (1, vL (wL ((wL (31 * (wL ((wL (31 * (wL ((wL (31 * (wL ((wL (31 * (wL ((wL (31 * (wL ((wL (31 * (wL ((wL (31 * (forR 0 10 (dg4F (lives N1)) (forR 0 16 (dg3F (lives N1)) (forR 0 (M 44 7) (dg2F M) h0))))) + ((lives N1) 44 26))))) + ((lives N1) 44 27))))) + (restS M 0))))) + (restS M 1))))) + (spareS M (-1)))))) + (spareS M 0))))) + (neverS M)))), (3, vI 10)]) (kX6_digest.at 154 rfl) (by decide) rfl ?_
  refine a_ldc2 (kX6_digest.at 155 rfl) cl_X6_320 (31) rfl ⟨by decide, by decide⟩ ?_
  refine a_lload_n (kX6_digest.at 156 rfl) 1 rfl ?_
  refine a_lmul (kX6_digest.at 157 rfl) ?_
  refine a_aload_n (kX6_digest.at 158 rfl) 0 rfl ?_
  refine a_bipush (kX6_digest.at 159 rfl) rfl rfl ?_
  refine a_bipush (kX6_digest.at 160 rfl) rfl rfl ?_
  refine a_iconst (kX6_digest.at 161 rfl) rfl ?_
  refine AW.callV (as := [vI 7, vI 6, vI 0]) (st := [vL (wL (31 * (wL ((wL (31 * (wL ((wL (31 * (wL ((wL (31 * (wL ((wL (31 * (wL ((wL (31 * (wL ((wL (31 * (wL ((wL (31 * (forR 0 10 (dg4F (lives N1)) (forR 0 16 (dg3F (lives N1)) (forR 0 (M 44 7) (dg2F M) h0))))) + ((lives N1) 44 26))))) + ((lives N1) 44 27))))) + (restS M 0))))) + (restS M 1))))) + (spareS M (-1)))))) + (spareS M 0))))) + (neverS M)))))]) (kX6_digest.at 162 rfl) ml_X6_314 sv_X6_decadesOf (k := 44) (io_44) rfl rfl ⟨Nat.le_of_ble_eq_true rfl, Nat.le_of_ble_eq_true rfl⟩ ⟨Nat.le_refl _, Nat.le_refl _⟩ rfl rfl (Nat.le_of_ble_eq_true rfl) (c_decadesOf G N7 7 6 0 (hB.Fq hF7) (by omega)) (kI fun r N8 hr => ?_)
  obtain ⟨er, hq8⟩ := hr
  rw [er, decadesS_E i7.1 hB _ _ _ (by omega)]
  have hF8 := hF7.trans hq8
  have i8 := hF8.ie hB.2.2
  refine a_i2l (kX6_digest.at 163 rfl) ?_
  refine a_ladd (kX6_digest.at 164 rfl) ?_
  refine a_lstore_n (ls' := [(0, vR 44), (1, vL (wL ((wL (31 * (wL ((wL (31 * (wL ((wL (31 * (wL ((wL (31 * (wL ((wL (31 * (wL ((wL (31 * (wL ((wL (31 * (wL ((wL (31 * (forR 0 10 (dg4F (lives N1)) (forR 0 16 (dg3F (lives N1)) (forR 0 (M 44 7) (dg2F M) h0))))) + ((lives N1) 44 26))))) + ((lives N1) 44 27))))) + (restS M 0))))) + (restS M 1))))) + (spareS M (-1)))))) + (spareS M 0))))) + (neverS M))))) + (decadesS M 7 6 0)))), (3, vI 10)]) (kX6_digest.at 165 rfl) (by decide) rfl ?_
  refine a_ldc2 (kX6_digest.at 166 rfl) cl_X6_320 (31) rfl ⟨by decide, by decide⟩ ?_
  refine a_lload_n (kX6_digest.at 167 rfl) 1 rfl ?_
  refine a_lmul (kX6_digest.at 168 rfl) ?_
  refine a_aload_n (kX6_digest.at 169 rfl) 0 rfl ?_
  refine a_bipush (kX6_digest.at 170 rfl) rfl rfl ?_
  refine a_bipush (kX6_digest.at 171 rfl) rfl rfl ?_
  refine a_iconst (kX6_digest.at 172 rfl) rfl ?_
  refine AW.callV (as := [vI 7, vI 6, vI 1]) (st := [vL (wL (31 * (wL ((wL (31 * (wL ((wL (31 * (wL ((wL (31 * (wL ((wL (31 * (wL ((wL (31 * (wL ((wL (31 * (wL ((wL (31 * (wL ((wL (31 * (forR 0 10 (dg4F (lives N1)) (forR 0 16 (dg3F (lives N1)) (forR 0 (M 44 7) (dg2F M) h0))))) + ((lives N1) 44 26))))) + ((lives N1) 44 27))))) + (restS M 0))))) + (restS M 1))))) + (spareS M (-1)))))) + (spareS M 0))))) + (neverS M))))) + (decadesS M 7 6 0)))))]) (kX6_digest.at 173 rfl) ml_X6_314 sv_X6_decadesOf (k := 44) (io_44) rfl rfl ⟨Nat.le_of_ble_eq_true rfl, Nat.le_of_ble_eq_true rfl⟩ ⟨Nat.le_refl _, Nat.le_refl _⟩ rfl rfl (Nat.le_of_ble_eq_true rfl) (c_decadesOf G N8 7 6 1 (hB.Fq hF8) (by omega)) (kI fun r N9 hr => ?_)
  obtain ⟨er, hq9⟩ := hr
  rw [er, decadesS_E i8.1 hB _ _ _ (by omega)]
  have hF9 := hF8.trans hq9
  refine a_i2l (kX6_digest.at 174 rfl) ?_
  refine a_ladd (kX6_digest.at 175 rfl) ?_
  exact a_lret (kX6_digest.at 176 rfl) (hP _ _ (by unfold dgT; rw [← dg34_E (lives_E i1.1 hp)]; rfl) hF9)
