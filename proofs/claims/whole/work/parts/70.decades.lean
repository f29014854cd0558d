/-! ===== the class: decades ===== -/
theorem lotS_r (s : Int) {m : Int} (hm : 0 < m) : 0 ≤ lotS s m ∧ lotS s m ≤ m - 1 := by
  unfold lotS
  exact ⟨Int.emod_nonneg _ (by omega), by have := Int.emod_lt_of_pos (iUshr s 16) hm; omega⟩
theorem k_lot (G : GT) (M : Mem) (s m : Int) (hm : 0 < m) : AM G yX5_lot cX5_lot 2 (some .int) 0 M [vI s, vI m] (qI (lotS s m) M) := by
  refine AM.mk (own := RX5) rfl ss_X5_lot.1.2.2.2.2.2 (Nat.le_of_ble_eq_true rfl) rfl ?_
  have hu := ushr_r s
  refine a_iload_n (kX5_lot.at 0 rfl) 1 rfl ?_
  refine a_ifle (tgt := 13) (kX5_lot.at 1 rfl) (by decide) (fun h1 => ?_) (fun h1 => ?_)
  · exfalso; omega
  · refine a_iload_n (kX5_lot.at 2 rfl) 0 rfl ?_
    refine a_bipush (kX5_lot.at 3 rfl) rfl rfl ?_
    refine a_iushr (kX5_lot.at 4 rfl) ?_
    refine a_iload_n (kX5_lot.at 5 rfl) 1 rfl ?_
    refine a_irem (kX5_lot.at 6 rfl) (by omega) (by omega) ?_
    refine a_goto (tgt := 14) (kX5_lot.at 7 rfl) (by decide) ?_
    exact a_iretE (kX5_lot.at 9 rfl) (⟨rfl, rfl⟩)
theorem k_lotE (G : GT) (M : Mem) (s m m' : Int) (e : m = m') (hm : 0 < m') : AM G yX5_lot cX5_lot 2 (some .int) 0 M [vI s, vI m] (qI (lotS s m') M) := by
  subst e
  exact k_lot G M s m hm
theorem dcF_31 (i : Int) (K : Mem) : dcF i K 44 31 = nxS (nxS (nxS (K 44 31))) := by
  unfold dcF keeps
  rw [rd_ni (by decide), rd_ne (by decide), rd_ne (by decide), rd_ne (by decide), rd_eq]
/-- the draw under way -/
noncomputable def DN (N R D : Mem) : Prop := LD N 1 D ∧ IR D ∧ EV D ∧ D 44 12 = -1 ∧ D 44 11 = 0 ∧ D 44 7 = R 44 7
theorem DN_step {N R D : Mem} (h : DN N R D) (h9 : 0 ≤ D 44 9 ∧ D 44 9 ≤ 7) (hp : 0 < R 44 7) (i : Int) : DN (upm N 35 (lotS (nxS (nxS (D 44 31))) 16) (plS (N 35 (lotS (nxS (nxS (D 44 31))) 16)) (lotS (nxS (D 44 31)) 4) (lotS (nxS (nxS (nxS (D 44 31)))) (R 44 7)))) R (dcF i D) := by
  obtain ⟨hL, hI, hE, h12, h11, h7⟩ := h
  have f : ∀ j, ¬ (j = 9 ∨ j = 31) → dcF i D 44 j = D 44 j := fun j hj => dcF_fr i D 44 j (by decide) (by omega)
  have f50 : ∀ j, dcF i D 50 j = D 50 j := fun j => dcF_fr i D 50 j (by decide) (by omega)
  have e9 : dcF i D 44 9 = D 44 9 + 1 := dcF_9 i D
  have e51 := dcF_51 i D
  rw [h7] at e51
  have r4 := lotS_r (nxS (D 44 31)) (m := 4) (by omega)
  have r16 := lotS_r (nxS (nxS (D 44 31))) (m := 16) (by omega)
  have rp := lotS_r (nxS (nxS (nxS (D 44 31)))) (m := R 44 7) hp
  have hp8 := hI.1
  obtain ⟨ki, eki⟩ : ∃ z, z = lotS (nxS (D 44 31)) 4 := ⟨_, rfl⟩
  obtain ⟨qi, eqi⟩ : ∃ z, z = lotS (nxS (nxS (D 44 31))) 16 := ⟨_, rfl⟩
  obtain ⟨pi, epi⟩ : ∃ z, z = lotS (nxS (nxS (nxS (D 44 31)))) (R 44 7) := ⟨_, rfl⟩
  rw [← eki, ← eqi, ← epi] at e51 ⊢
  rw [← eki] at r4
  rw [← eqi] at r16
  rw [← epi] at rp
  have o51 : ∀ j, j < 3 * D 44 9 → dcF i D 51 j = D 51 j := fun j hj => by
    rw [e51, ups_ne (by omega), ups_ne (by omega), ups_ne (by omega)]
  have n0 : dcF i D 51 (3 * D 44 9) = ki := by rw [e51, ups_ne (by omega), ups_ne (by omega), ups_same]
  have n1 : dcF i D 51 (3 * D 44 9 + 1) = qi := by rw [e51, ups_ne (by omega), ups_same]
  have n2 : dcF i D 51 (3 * D 44 9 + 2) = pi := by rw [e51, ups_same]
  refine ⟨⟨?_, fun p a b => ?_, fun q a b => ?_⟩, ⟨?_, fun p a b => ?_, fun p q a b c d e => ?_⟩, ⟨?_, fun x a b => ?_, fun z => ?_⟩, (f 12 (by omega)).trans h12, (f 11 (by omega)).trans h11, (f 7 (by omega)).trans h7⟩
  · rw [f 7 (by omega)]
    exact (rd_ne (by omega)).trans hL.1
  · rw [f 7 (by omega)] at b
    rw [f50, f50, f50]
    exact hL.2.1 p a b
  · have z : N 35 q = plW D q := hL.2.2 q a b
    have y : plW D q = plW1 D q := if_neg (by omega)
    have w : plW (dcF i D) q = plW1 (dcF i D) q := if_neg (by rw [f 12 (by omega)]; omega)
    have v : plW1 (dcF i D) q = plE (dcF i D) q (D 44 9) (plW1 D q) := by
      unfold plW1
      rw [e9, forR_succ h9.1]
      congr 1
      refine forR_cong fun e x c d => ?_
      unfold plE
      rw [o51 (3 * e + 1) (by omega), o51 (3 * e) (by omega), o51 (3 * e + 2) (by omega), f 11 (by omega)]
    show upm N 35 qi (plS (N 35 qi) ki pi) 35 q = plW (dcF i D) q
    rw [w, v]
    unfold plE
    rw [n0, n1, n2, f 11 (by omega), h11]
    have i0 := (in255 (e := D 44 9) (by omega)).2
    by_cases eq : qi = q
    · rw [if_pos ⟨eq, i0⟩, ← eq, rd_eq, eq, z, y]
    · rw [if_neg (fun u => eq u.1), rd_ni (fun u => eq u.symm), z, y]
  · rw [f 7 (by omega)]; exact hI.1
  · rw [f 7 (by omega)] at b
    rw [f50, f50]
    exact hI.2.1 p a b
  · rw [f 7 (by omega)] at b d
    rw [f50, f50] at e
    exact hI.2.2 p q a b c d e
  · rw [e9]; omega
  · rw [e9] at b
    by_cases ex : x = D 44 9
    · rw [ex, n0, n1, n2]
      omega
    · rw [o51 (3 * x + 1) (by omega), o51 (3 * x) (by omega), o51 (3 * x + 2) (by omega)]
      exact hE.2.1 x a (by omega)
  · rw [f 12 (by omega)] at z
    omega
noncomputable def dcB (R : Mem) (seed : Int) : Mem := upm (upm R 44 31 seed) 44 9 0
theorem DN_base {M K N : Mem} (hC : Cp M K) (h : MB K) (hI : CI K) (hL : LPd M N 1 0) (seed : Int) : DN N (reads K).1 (dcB (reads K).1 seed) := by
  have h12 := reads_12 h
  have h11 := (reads_BI h).1.2.1
  have hX := hC.2.1
  refine ⟨⟨hL.1.1.trans hX.2.1, fun p a b => ?_, fun q a b => ?_⟩, hI.1, ⟨(show (0 : Int) ≤ 0 ∧ (0 : Int) ≤ 8 by omega), fun i a b => ?_, fun z => ?_⟩, h12, h11, rfl⟩
  · have b' : p < (reads K).1 44 7 := b
    have z := hL.1.2.1 p a (by rw [hX.2.1]; exact b')
    rw [z.1, z.2.1, z.2.2]
    exact hX.2.2 p a b'
  · have z1 : plX M 0 q = 0 := by
      have h9 := hC.1.2.2.1
      unfold plX
      refine forR_inv (fun _ x => x = 0) h9.1 rfl (fun e x c d ex => ?_)
      unfold pxF
      rw [if_neg (fun u => (in255 (e := e) (by omega)).2 u.1)]
      exact ex
    have z2 : plW (dcB (reads K).1 seed) q = 0 := by
      have y : plW (dcB (reads K).1 seed) q = plW1 (dcB (reads K).1 seed) q := if_neg (by show ¬ ((reads K).1 44 12 = q); omega)
      rw [y]
      exact forR_nil (Int.le_refl _)
    rw [z2, ← z1]
    exact hL.1.2.2 q a b
  · have b' : i < 0 := b
    omega
  · have z' : 0 ≤ (reads K).1 44 12 := z
    omega
set_option maxHeartbeats 4000000 in
set_option maxRecDepth 100000 in
theorem l_kdec (G : GT) (M R : Mem) (seed n w : Int) (P : Option AV → Mem → Prop) (hp : 0 < R 44 7 ∧ R 44 7 ≤ 8) (h5 : M 1 5 = R 44 7) (hD : DN M R (dcB R seed)) (hn : 0 ≤ n ∧ n ≤ 8) (hlohi : (0 : Int) ≤ n) (kk : ∀ (N : Mem), (Fy M N) → (DN N R (forR 0 n dcF (dcB R seed)) ∧ forR 0 n dcF (dcB R seed) 44 31 = (forR 0 n (fun _ s => nxS (nxS (nxS s))) seed) ∧ forR 0 n dcF (dcB R seed) 44 9 = n) → AW G RX5 cX5_decades 8 (some .int) (XM G 4 P) 126 [(0, vR 0), (1, vI seed), (2, vI n), (3, vI w), (4, vI (forR 0 n (fun _ s => nxS (nxS (nxS s))) seed)), (5, vI n)] [] N) : AW G RX5 cX5_decades 8 (some .int) (XM G 4 P) 43 [(0, vR 0), (1, vI seed), (2, vI n), (3, vI w), (4, vI seed), (5, vI 0)] [] M := by
  have key : ∀ (nn : Nat) (e : Int) (s : Int) (N : Mem), (0 : Int) ≤ e → e ≤ n → s = forR 0 e (fun _ s => nxS (nxS (nxS s))) seed → (Fy M N) → (DN N R (forR 0 e dcF (dcB R seed)) ∧ forR 0 e dcF (dcB R seed) 44 31 = s ∧ forR 0 e dcF (dcB R seed) 44 9 = e) → n - e < nn → AW G RX5 cX5_decades 8 (some .int) (XM G 4 P) 43 [(0, vR 0), (1, vI seed), (2, vI n), (3, vI w), (4, vI s), (5, vI e)] [] N := by
    intro nn
    induction nn with
    | zero => intro e s N hk0 hk1 e_s hy hz hn; omega
    | succ nn ih =>
      intro e s N hk0 hk1 e_s hy hz hn
      have e5 : N 1 5 = R 44 7 := (hy 1 5 (by omega) (by omega) (by omega) (by omega)).trans h5
      refine a_iload (kX5_decades.at 23 rfl) 5 rfl ?_
      refine a_iload_n (kX5_decades.at 24 rfl) 2 rfl ?_
      refine a_icmpge (tgt := 126) (kX5_decades.at 25 rfl) (by decide) (fun h46 => ?_) (fun h46 => ?_)
      · subst e_s
        obtain rfl : e = n := by omega
        exact kk N hy hz
      · refine a_aload_n (kX5_decades.at 26 rfl) 0 rfl ?_
        refine a_getR (kX5_decades.at 27 rfl) fg_X5_10 ir_0_0 ?_
        refine a_getI (x := N 1 5) (kX5_decades.at 28 rfl) fg_X5_224 ii_1_5 (rfl) ?_
        refine a_ifle (tgt := 126) (kX5_decades.at 29 rfl) (by decide) (fun h56 => ?_) (fun h56 => ?_)
        · subst e_s
          obtain rfl : e = n := by omega
          exact kk N hy hz
        · refine a_iload (kX5_decades.at 30 rfl) 4 rfl ?_
          refine AW.callS (as := [vI s]) (st := []) (kX5_decades.at 31 rfl) ml_X5_225 ss_X5_nextSeed ⟨Nat.le_of_ble_eq_true rfl, Nat.le_of_ble_eq_true rfl⟩ ⟨Nat.le_refl _, Nat.le_refl _⟩ rfl rfl (Nat.le_of_ble_eq_true rfl) (k_nextSeed G N s) (kIE ?_)
          refine a_istore (ls' := [(0, vR 0), (1, vI seed), (2, vI n), (3, vI w), (4, vI (nxS s)), (5, vI e)]) (kX5_decades.at 32 rfl) (by decide) rfl ?_
          refine a_iload (kX5_decades.at 33 rfl) 4 rfl ?_
          refine a_iconst (kX5_decades.at 34 rfl) rfl ?_
          refine AW.callS (as := [vI (nxS s), vI 4]) (st := []) (kX5_decades.at 35 rfl) ml_X5_228 ss_X5_lot ⟨Nat.le_of_ble_eq_true rfl, Nat.le_of_ble_eq_true rfl⟩ ⟨Nat.le_refl _, Nat.le_refl _⟩ rfl rfl (Nat.le_of_ble_eq_true rfl) (k_lot G N (nxS s) 4 (by omega)) (kIE ?_)
          refine a_istore (ls' := [(0, vR 0), (1, vI seed), (2, vI n), (3, vI w), (4, vI (nxS s)), (5, vI e), (6, vI (lotS (nxS s) 4))]) (kX5_decades.at 36 rfl) (by decide) rfl ?_
          refine a_iload (kX5_decades.at 37 rfl) 4 rfl ?_
          refine AW.callS (as := [vI (nxS s)]) (st := []) (kX5_decades.at 38 rfl) ml_X5_225 ss_X5_nextSeed ⟨Nat.le_of_ble_eq_true rfl, Nat.le_of_ble_eq_true rfl⟩ ⟨Nat.le_refl _, Nat.le_refl _⟩ rfl rfl (Nat.le_of_ble_eq_true rfl) (k_nextSeed G N (nxS s)) (kIE ?_)
          refine a_istore (ls' := [(0, vR 0), (1, vI seed), (2, vI n), (3, vI w), (4, vI (nxS (nxS s))), (5, vI e), (6, vI (lotS (nxS s) 4))]) (kX5_decades.at 39 rfl) (by decide) rfl ?_
          refine a_iload (kX5_decades.at 40 rfl) 4 rfl ?_
          refine a_bipush (kX5_decades.at 41 rfl) rfl rfl ?_
          refine AW.callS (as := [vI (nxS (nxS s)), vI 16]) (st := []) (kX5_decades.at 42 rfl) ml_X5_228 ss_X5_lot ⟨Nat.le_of_ble_eq_true rfl, Nat.le_of_ble_eq_true rfl⟩ ⟨Nat.le_refl _, Nat.le_refl _⟩ rfl rfl (Nat.le_of_ble_eq_true rfl) (k_lot G N (nxS (nxS s)) 16 (by omega)) (kIE ?_)
          refine a_istore (ls' := [(0, vR 0), (1, vI seed), (2, vI n), (3, vI w), (4, vI (nxS (nxS s))), (5, vI e), (6, vI (lotS (nxS s) 4)), (7, vI (lotS (nxS (nxS s)) 16))]) (kX5_decades.at 43 rfl) (by decide) rfl ?_
          refine a_iload (kX5_decades.at 44 rfl) 4 rfl ?_
          refine AW.callS (as := [vI (nxS (nxS s))]) (st := []) (kX5_decades.at 45 rfl) ml_X5_225 ss_X5_nextSeed ⟨Nat.le_of_ble_eq_true rfl, Nat.le_of_ble_eq_true rfl⟩ ⟨Nat.le_refl _, Nat.le_refl _⟩ rfl rfl (Nat.le_of_ble_eq_true rfl) (k_nextSeed G N (nxS (nxS s))) (kIE ?_)
          refine a_istore (ls' := [(0, vR 0), (1, vI seed), (2, vI n), (3, vI w), (4, vI (nxS (nxS (nxS s)))), (5, vI e), (6, vI (lotS (nxS s) 4)), (7, vI (lotS (nxS (nxS s)) 16))]) (kX5_decades.at 46 rfl) (by decide) rfl ?_
          refine a_aload_n (kX5_decades.at 47 rfl) 0 rfl ?_
          refine a_getR (kX5_decades.at 48 rfl) fg_X5_33 ir_0_4 ?_
          refine a_iload (kX5_decades.at 49 rfl) 6 rfl ?_
          refine a_iload (kX5_decades.at 50 rfl) 7 rfl ?_
          refine a_iload (kX5_decades.at 51 rfl) 4 rfl ?_
          refine a_aload_n (kX5_decades.at 52 rfl) 0 rfl ?_
          refine a_getR (kX5_decades.at 53 rfl) fg_X5_10 ir_0_0 ?_
          refine a_getI (x := N 1 5) (kX5_decades.at 54 rfl) fg_X5_224 ii_1_5 (rfl) ?_
          refine AW.callS (as := [vI (nxS (nxS (nxS s))), vI (N 1 5)]) (st := [vI (lotS (nxS (nxS s)) 16), vI (lotS (nxS s) 4), vR 5]) (kX5_decades.at 55 rfl) ml_X5_228 ss_X5_lot ⟨Nat.le_of_ble_eq_true rfl, Nat.le_of_ble_eq_true rfl⟩ ⟨Nat.le_refl _, Nat.le_refl _⟩ rfl rfl (Nat.le_of_ble_eq_true rfl) (k_lotE G N (nxS (nxS (nxS s))) (N 1 5) (R 44 7) e5 (by omega)) (kIE ?_)
          have r4 := lotS_r (nxS s) (m := 4) (by omega)
          have r16 := lotS_r (nxS (nxS s)) (m := 16) (by omega)
          have rp := lotS_r (nxS (nxS (nxS s))) (m := R 44 7) hp.1
          have hz1 : DN (upm N 35 (lotS (nxS (nxS s)) 16) (plS (N 35 (lotS (nxS (nxS s)) 16)) (lotS (nxS s) 4) (lotS (nxS (nxS (nxS s))) (R 44 7)))) R (forR 0 (e + 1) dcF (dcB R seed)) ∧ forR 0 (e + 1) dcF (dcB R seed) 44 31 = nxS (nxS (nxS s)) ∧ forR 0 (e + 1) dcF (dcB R seed) 44 9 = e + 1 := by
            rw [forR_succ hk0]
            have z := DN_step hz.1 (by omega) hp.1 e
            rw [hz.2.1] at z
            exact ⟨z, by rw [dcF_31, hz.2.1], by rw [dcF_9, hz.2.2]⟩
          have hy1 : Fy M (upm N 35 (lotS (nxS (nxS s)) 16) (plS (N 35 (lotS (nxS (nxS s)) 16)) (lotS (nxS s) 4) (lotS (nxS (nxS (nxS s))) (R 44 7)))) := hy.trans (Fy_35 _ _ _)
          refine AW.callV (as := [vI (lotS (nxS s) 4), vI (lotS (nxS (nxS s)) 16), vI (lotS (nxS (nxS (nxS s))) (R 44 7))]) (st := []) (kX5_decades.at 56 rfl) ml_X5_175 sv_X1_plan (k := 5) (io_5) rfl rfl ⟨Nat.le_of_ble_eq_true rfl, Nat.le_of_ble_eq_true rfl⟩ ⟨Nat.le_refl _, Nat.le_refl _⟩ rfl rfl (Nat.le_of_ble_eq_true rfl) (k_planT G N (lotS (nxS s) 4) (lotS (nxS (nxS s)) 16) (lotS (nxS (nxS (nxS s))) (R 44 7)) (by omega) (by omega) (by omega)) (kVE ?_)
          refine a_iinc (ls' := [(0, vR 0), (1, vI seed), (2, vI n), (3, vI w), (4, vI (nxS (nxS (nxS s)))), (5, vI (e + 1)), (6, vI (lotS (nxS s) 4)), (7, vI (lotS (nxS (nxS s)) 16))]) (kX5_decades.at 57 rfl) 5 rfl (by decide) (inr (by omega)) rfl ?_
          refine a_goto (tgt := 43) (kX5_decades.at 58 rfl) (by decide) ?_
          refine AW.loc (ls' := [(0, vR 0), (1, vI seed), (2, vI n), (3, vI w), (4, vI (nxS (nxS (nxS s)))), (5, vI (e + 1))]) [0, 1, 2, 3, 4, 5] rfl ?_
          exact ih ((e + 1)) ((nxS (nxS (nxS s)))) ((upm N 35 (lotS (nxS (nxS s)) 16) (plS (N 35 (lotS (nxS (nxS s)) 16)) (lotS (nxS s) 4) (lotS (nxS (nxS (nxS s))) (R 44 7))))) (by omega) (by omega) (by rw [forR_succ hk0, ← e_s] <;> (clear ih kk e_s; rfl)) (hy1) (hz1) (by omega)
  exact key ((n) - (0) + 1 : Int).toNat (0) seed M (Int.le_refl _) hlohi (forR_nil (Int.le_refl _)).symm (Fy.refl M) (by rw [forR_nil (Int.le_refl _)]; exact ⟨hD, rfl, rfl⟩) (by omega)
theorem k_decades (G : GT) (M K : Mem) (seed n w : Int) (hC : Cp M K) (h : MB K) : AM G yX5_decades cX5_decades 8 (some .int) 4 M [vR 0, vI seed, vI n, vI w] (pI fun r N => r = o_decades K seed n w ∧ Fy M N) := by
  refine AM.mk (own := RX5) rfl sv_X5_decades.1.2.2.2.2.2 (Nat.le_of_ble_eq_true rfl) rfl ?_
  have hI := CI_of hC h
  have hp := hI.1.1
  have e5 := hC.2.1.2.1
  have eD : 0 ≤ n ∧ n ≤ 8 → decadesS (find K) seed n w = sumBy (lives (forR 0 (if 0 < (reads K).1 44 7 then n else 0) dcF (dcB (reads K).1 seed))) w := fun u => decadesS_E (rf_InE K) (reads_BI h).1 seed n w u
  by_cases hq : 0 < (reads K).1 44 7
  · rw [if_pos hq] at eD
    refine a_iload_n (kX5_decades.at 0 rfl) 2 rfl ?_
    refine a_iflt (tgt := 18) (kX5_decades.at 1 rfl) (by decide) (fun h1 => ?_) (fun h1 => ?_)
    · refine a_bipush (kX5_decades.at 9 rfl) rfl rfl ?_
      exact a_iret (kX5_decades.at 10 rfl) (by unfold o_decades; first | (rw [if_neg (by omega)]; exact ⟨rfl, Fy.refl M⟩) | (rw [if_pos (by omega), eD (by omega)]; unfold sumBy; first | (rw [if_pos (by omega)]; exact ⟨m4.1, hy4⟩) | (rw [if_neg (by omega), if_pos (by omega)]; exact ⟨m4.2.1, hy4⟩)))
    · refine a_iload_n (kX5_decades.at 2 rfl) 2 rfl ?_
      refine a_bipush (kX5_decades.at 3 rfl) rfl rfl ?_
      refine a_icmpgt (tgt := 18) (kX5_decades.at 4 rfl) (by decide) (fun h7 => ?_) (fun h7 => ?_)
      · refine a_bipush (kX5_decades.at 9 rfl) rfl rfl ?_
        exact a_iret (kX5_decades.at 10 rfl) (by unfold o_decades; first | (rw [if_neg (by omega)]; exact ⟨rfl, Fy.refl M⟩) | (rw [if_pos (by omega), eD (by omega)]; unfold sumBy; first | (rw [if_pos (by omega)]; exact ⟨m4.1, hy4⟩) | (rw [if_neg (by omega), if_pos (by omega)]; exact ⟨m4.2.1, hy4⟩)))
      · refine a_iload_n (kX5_decades.at 5 rfl) 3 rfl ?_
        refine a_iconst (kX5_decades.at 6 rfl) rfl ?_
        refine AW.callS (as := [vI w, vI 2]) (st := []) (kX5_decades.at 7 rfl) ml_X5_74 ss_X5_isBelow ⟨Nat.le_of_ble_eq_true rfl, Nat.le_of_ble_eq_true rfl⟩ ⟨Nat.le_refl _, Nat.le_refl _⟩ rfl rfl (Nat.le_of_ble_eq_true rfl) (k_isBelow G M w 2) (kIE ?_)
        refine a_ifneB (tgt := 21) (kX5_decades.at 8 rfl) (by decide) (fun h15 => ?_) (fun h15 => ?_)
        · refine a_aload_n (kX5_decades.at 11 rfl) 0 rfl ?_
          refine a_getR (kX5_decades.at 12 rfl) fg_X5_33 ir_0_4 ?_
          refine a_aload_n (kX5_decades.at 13 rfl) 0 rfl ?_
          refine a_getR (kX5_decades.at 14 rfl) fg_X5_10 ir_0_0 ?_
          refine a_aload_n (kX5_decades.at 15 rfl) 0 rfl ?_
          refine a_getR (kX5_decades.at 16 rfl) fg_X5_19 ir_0_1 ?_
          refine a_iconst (kX5_decades.at 17 rfl) rfl ?_
          refine AW.callV (as := [vR 1, vR 2, vI 0]) (st := []) (kX5_decades.at 18 rfl) ml_X5_157 sv_X1_load (k := 5) (io_5) rfl rfl ⟨Nat.le_of_ble_eq_true rfl, Nat.le_of_ble_eq_true rfl⟩ ⟨Nat.le_refl _, Nat.le_refl _⟩ rfl rfl (Nat.le_of_ble_eq_true rfl) (k_loadT G M K 0 hC h (by omega)) (kV fun N2 hN2 => ?_)
          skip
          have hy2 := hN2.y
          refine a_iload_n (kX5_decades.at 19 rfl) 1 rfl ?_
          refine a_istore (ls' := [(0, vR 0), (1, vI seed), (2, vI n), (3, vI w), (4, vI seed)]) (kX5_decades.at 20 rfl) (by decide) rfl ?_
          refine a_iconst (kX5_decades.at 21 rfl) rfl ?_
          refine a_istore (ls' := [(0, vR 0), (1, vI seed), (2, vI n), (3, vI w), (4, vI seed), (5, vI 0)]) (kX5_decades.at 22 rfl) (by decide) rfl ?_
          refine l_kdec G N2 (reads K).1 seed n w _ (by omega) ((hy2 1 5 (by omega) (by omega) (by omega) (by omega)).trans e5) (DN_base hC h hI hN2 seed) (by omega) (by omega) ?_
          intro N3 hy3 hz3
          show AW _ _ _ _ _ _ 126 [(0, vR 0), (1, vI seed), (2, vI n), (3, vI w), (4, vI (forR 0 n (fun _ s => nxS (nxS (nxS s))) seed)), (5, vI n)] [] N3
          refine a_aload_n (kX5_decades.at 59 rfl) 0 rfl ?_
          refine a_getR (kX5_decades.at 60 rfl) fg_X5_33 ir_0_4 ?_
          refine AW.callV (as := []) (st := []) (kX5_decades.at 61 rfl) ml_X5_162 sv_X1_run (k := 5) (io_5) rfl rfl ⟨Nat.le_of_ble_eq_true rfl, Nat.le_of_ble_eq_true rfl⟩ ⟨Nat.le_refl _, Nat.le_refl _⟩ rfl rfl (Nat.le_of_ble_eq_true rfl) (k_runT G N3 (forR 0 n dcF (dcB (reads K).1 seed)) hz3.1.1 hz3.1.2.1 hz3.1.2.2.1) (kV fun N4 hN4 => ?_)
          skip
          obtain ⟨s4, t4, r4, f4⟩ := hN4
          have hy4 := (hy2.trans hy3).trans f4.y
          have m4 := s4.2.2.2.1
          refine a_iload_n (kX5_decades.at 62 rfl) 3 rfl ?_
          refine a_ifne (tgt := 147) (kX5_decades.at 63 rfl) (by decide) (fun h134 => ?_) (fun h134 => ?_)
          · refine a_aload_n (kX5_decades.at 68 rfl) 0 rfl ?_
            refine a_getR (kX5_decades.at 69 rfl) fg_X5_33 ir_0_4 ?_
            refine a_getI (x := N4 5 10) (kX5_decades.at 70 rfl) fg_X5_136 ii_5_10 (rfl) ?_
            exact a_iret (kX5_decades.at 71 rfl) (by unfold o_decades; first | (rw [if_neg (by omega)]; exact ⟨rfl, Fy.refl M⟩) | (rw [if_pos (by omega), eD (by omega)]; unfold sumBy; first | (rw [if_pos (by omega)]; exact ⟨m4.1, hy4⟩) | (rw [if_neg (by omega), if_pos (by omega)]; exact ⟨m4.2.1, hy4⟩)))
          · refine a_aload_n (kX5_decades.at 64 rfl) 0 rfl ?_
            refine a_getR (kX5_decades.at 65 rfl) fg_X5_33 ir_0_4 ?_
            refine a_getI (x := N4 5 9) (kX5_decades.at 66 rfl) fg_X5_133 ii_5_9 (rfl) ?_
            refine a_goto (tgt := 154) (kX5_decades.at 67 rfl) (by decide) ?_
            exact a_iret (kX5_decades.at 71 rfl) (by unfold o_decades; first | (rw [if_neg (by omega)]; exact ⟨rfl, Fy.refl M⟩) | (rw [if_pos (by omega), eD (by omega)]; unfold sumBy; first | (rw [if_pos (by omega)]; exact ⟨m4.1, hy4⟩) | (rw [if_neg (by omega), if_pos (by omega)]; exact ⟨m4.2.1, hy4⟩)))
        · refine a_bipush (kX5_decades.at 9 rfl) rfl rfl ?_
          exact a_iret (kX5_decades.at 10 rfl) (by unfold o_decades; first | (rw [if_neg (by omega)]; exact ⟨rfl, Fy.refl M⟩) | (rw [if_pos (by omega), eD (by omega)]; unfold sumBy; first | (rw [if_pos (by omega)]; exact ⟨m4.1, hy4⟩) | (rw [if_neg (by omega), if_pos (by omega)]; exact ⟨m4.2.1, hy4⟩)))
  · rw [if_neg hq, forR_nil (Int.le_refl _)] at eD
    refine a_iload_n (kX5_decades.at 0 rfl) 2 rfl ?_
    refine a_iflt (tgt := 18) (kX5_decades.at 1 rfl) (by decide) (fun h1 => ?_) (fun h1 => ?_)
    · refine a_bipush (kX5_decades.at 9 rfl) rfl rfl ?_
      exact a_iret (kX5_decades.at 10 rfl) (by unfold o_decades; first | (rw [if_neg (by omega)]; exact ⟨rfl, Fy.refl M⟩) | (rw [if_pos (by omega), eD (by omega)]; unfold sumBy; first | (rw [if_pos (by omega)]; exact ⟨m4.1, hy4⟩) | (rw [if_neg (by omega), if_pos (by omega)]; exact ⟨m4.2.1, hy4⟩)))
    · refine a_iload_n (kX5_decades.at 2 rfl) 2 rfl ?_
      refine a_bipush (kX5_decades.at 3 rfl) rfl rfl ?_
      refine a_icmpgt (tgt := 18) (kX5_decades.at 4 rfl) (by decide) (fun h7 => ?_) (fun h7 => ?_)
      · refine a_bipush (kX5_decades.at 9 rfl) rfl rfl ?_
        exact a_iret (kX5_decades.at 10 rfl) (by unfold o_decades; first | (rw [if_neg (by omega)]; exact ⟨rfl, Fy.refl M⟩) | (rw [if_pos (by omega), eD (by omega)]; unfold sumBy; first | (rw [if_pos (by omega)]; exact ⟨m4.1, hy4⟩) | (rw [if_neg (by omega), if_pos (by omega)]; exact ⟨m4.2.1, hy4⟩)))
      · refine a_iload_n (kX5_decades.at 5 rfl) 3 rfl ?_
        refine a_iconst (kX5_decades.at 6 rfl) rfl ?_
        refine AW.callS (as := [vI w, vI 2]) (st := []) (kX5_decades.at 7 rfl) ml_X5_74 ss_X5_isBelow ⟨Nat.le_of_ble_eq_true rfl, Nat.le_of_ble_eq_true rfl⟩ ⟨Nat.le_refl _, Nat.le_refl _⟩ rfl rfl (Nat.le_of_ble_eq_true rfl) (k_isBelow G M w 2) (kIE ?_)
        refine a_ifneB (tgt := 21) (kX5_decades.at 8 rfl) (by decide) (fun h15 => ?_) (fun h15 => ?_)
        · refine a_aload_n (kX5_decades.at 11 rfl) 0 rfl ?_
          refine a_getR (kX5_decades.at 12 rfl) fg_X5_33 ir_0_4 ?_
          refine a_aload_n (kX5_decades.at 13 rfl) 0 rfl ?_
          refine a_getR (kX5_decades.at 14 rfl) fg_X5_10 ir_0_0 ?_
          refine a_aload_n (kX5_decades.at 15 rfl) 0 rfl ?_
          refine a_getR (kX5_decades.at 16 rfl) fg_X5_19 ir_0_1 ?_
          refine a_iconst (kX5_decades.at 17 rfl) rfl ?_
          refine AW.callV (as := [vR 1, vR 2, vI 0]) (st := []) (kX5_decades.at 18 rfl) ml_X5_157 sv_X1_load (k := 5) (io_5) rfl rfl ⟨Nat.le_of_ble_eq_true rfl, Nat.le_of_ble_eq_true rfl⟩ ⟨Nat.le_refl _, Nat.le_refl _⟩ rfl rfl (Nat.le_of_ble_eq_true rfl) (k_loadT G M K 0 hC h (by omega)) (kV fun N2 hN2 => ?_)
          skip
          have hy2 := hN2.y
          have e52 := (hy2 1 5 (by omega) (by omega) (by omega) (by omega)).trans e5
          have hz3 := DN_base hC h hI hN2 seed
          refine a_iload_n (kX5_decades.at 19 rfl) 1 rfl ?_
          refine a_istore (ls' := [(0, vR 0), (1, vI seed), (2, vI n), (3, vI w), (4, vI seed)]) (kX5_decades.at 20 rfl) (by decide) rfl ?_
          refine a_iconst (kX5_decades.at 21 rfl) rfl ?_
          refine a_istore (ls' := [(0, vR 0), (1, vI seed), (2, vI n), (3, vI w), (4, vI seed), (5, vI 0)]) (kX5_decades.at 22 rfl) (by decide) rfl ?_
          refine a_iload (kX5_decades.at 23 rfl) 5 rfl ?_
          refine a_iload_n (kX5_decades.at 24 rfl) 2 rfl ?_
          refine a_icmpge (tgt := 126) (kX5_decades.at 25 rfl) (by decide) (fun h46 => ?_) (fun h46 => ?_)
          · refine a_aload_n (kX5_decades.at 59 rfl) 0 rfl ?_
            refine a_getR (kX5_decades.at 60 rfl) fg_X5_33 ir_0_4 ?_
            refine AW.callV (as := []) (st := []) (kX5_decades.at 61 rfl) ml_X5_162 sv_X1_run (k := 5) (io_5) rfl rfl ⟨Nat.le_of_ble_eq_true rfl, Nat.le_of_ble_eq_true rfl⟩ ⟨Nat.le_refl _, Nat.le_refl _⟩ rfl rfl (Nat.le_of_ble_eq_true rfl) (k_runT G N2 (dcB (reads K).1 seed) hz3.1 hz3.2.1 hz3.2.2.1) (kV fun N4 hN4 => ?_)
            skip
            obtain ⟨s4, t4, r4, f4⟩ := hN4
            have hy4 := hy2.trans f4.y
            have m4 := s4.2.2.2.1
            refine a_iload_n (kX5_decades.at 62 rfl) 3 rfl ?_
            refine a_ifne (tgt := 147) (kX5_decades.at 63 rfl) (by decide) (fun h134 => ?_) (fun h134 => ?_)
            · refine a_aload_n (kX5_decades.at 68 rfl) 0 rfl ?_
              refine a_getR (kX5_decades.at 69 rfl) fg_X5_33 ir_0_4 ?_
              refine a_getI (x := N4 5 10) (kX5_decades.at 70 rfl) fg_X5_136 ii_5_10 (rfl) ?_
              exact a_iret (kX5_decades.at 71 rfl) (by unfold o_decades; first | (rw [if_neg (by omega)]; exact ⟨rfl, Fy.refl M⟩) | (rw [if_pos (by omega), eD (by omega)]; unfold sumBy; first | (rw [if_pos (by omega)]; exact ⟨m4.1, hy4⟩) | (rw [if_neg (by omega), if_pos (by omega)]; exact ⟨m4.2.1, hy4⟩)))
            · refine a_aload_n (kX5_decades.at 64 rfl) 0 rfl ?_
              refine a_getR (kX5_decades.at 65 rfl) fg_X5_33 ir_0_4 ?_
              refine a_getI (x := N4 5 9) (kX5_decades.at 66 rfl) fg_X5_133 ii_5_9 (rfl) ?_
              refine a_goto (tgt := 154) (kX5_decades.at 67 rfl) (by decide) ?_
              exact a_iret (kX5_decades.at 71 rfl) (by unfold o_decades; first | (rw [if_neg (by omega)]; exact ⟨rfl, Fy.refl M⟩) | (rw [if_pos (by omega), eD (by omega)]; unfold sumBy; first | (rw [if_pos (by omega)]; exact ⟨m4.1, hy4⟩) | (rw [if_neg (by omega), if_pos (by omega)]; exact ⟨m4.2.1, hy4⟩)))
          · refine a_aload_n (kX5_decades.at 26 rfl) 0 rfl ?_
            refine a_getR (kX5_decades.at 27 rfl) fg_X5_10 ir_0_0 ?_
            refine a_getI (x := N2 1 5) (kX5_decades.at 28 rfl) fg_X5_224 ii_1_5 (rfl) ?_
            refine a_ifle (tgt := 126) (kX5_decades.at 29 rfl) (by decide) (fun h56 => ?_) (fun h56 => ?_)
            · refine a_aload_n (kX5_decades.at 59 rfl) 0 rfl ?_
              refine a_getR (kX5_decades.at 60 rfl) fg_X5_33 ir_0_4 ?_
              refine AW.callV (as := []) (st := []) (kX5_decades.at 61 rfl) ml_X5_162 sv_X1_run (k := 5) (io_5) rfl rfl ⟨Nat.le_of_ble_eq_true rfl, Nat.le_of_ble_eq_true rfl⟩ ⟨Nat.le_refl _, Nat.le_refl _⟩ rfl rfl (Nat.le_of_ble_eq_true rfl) (k_runT G N2 (dcB (reads K).1 seed) hz3.1 hz3.2.1 hz3.2.2.1) (kV fun N4 hN4 => ?_)
              skip
              obtain ⟨s4, t4, r4, f4⟩ := hN4
              have hy4 := hy2.trans f4.y
              have m4 := s4.2.2.2.1
              refine a_iload_n (kX5_decades.at 62 rfl) 3 rfl ?_
              refine a_ifne (tgt := 147) (kX5_decades.at 63 rfl) (by decide) (fun h134 => ?_) (fun h134 => ?_)
              · refine a_aload_n (kX5_decades.at 68 rfl) 0 rfl ?_
                refine a_getR (kX5_decades.at 69 rfl) fg_X5_33 ir_0_4 ?_
                refine a_getI (x := N4 5 10) (kX5_decades.at 70 rfl) fg_X5_136 ii_5_10 (rfl) ?_
                exact a_iret (kX5_decades.at 71 rfl) (by unfold o_decades; first | (rw [if_neg (by omega)]; exact ⟨rfl, Fy.refl M⟩) | (rw [if_pos (by omega), eD (by omega)]; unfold sumBy; first | (rw [if_pos (by omega)]; exact ⟨m4.1, hy4⟩) | (rw [if_neg (by omega), if_pos (by omega)]; exact ⟨m4.2.1, hy4⟩)))
              · refine a_aload_n (kX5_decades.at 64 rfl) 0 rfl ?_
                refine a_getR (kX5_decades.at 65 rfl) fg_X5_33 ir_0_4 ?_
                refine a_getI (x := N4 5 9) (kX5_decades.at 66 rfl) fg_X5_133 ii_5_9 (rfl) ?_
                refine a_goto (tgt := 154) (kX5_decades.at 67 rfl) (by decide) ?_
                exact a_iret (kX5_decades.at 71 rfl) (by unfold o_decades; first | (rw [if_neg (by omega)]; exact ⟨rfl, Fy.refl M⟩) | (rw [if_pos (by omega), eD (by omega)]; unfold sumBy; first | (rw [if_pos (by omega)]; exact ⟨m4.1, hy4⟩) | (rw [if_neg (by omega), if_pos (by omega)]; exact ⟨m4.2.1, hy4⟩)))
            · exfalso; omega
        · refine a_bipush (kX5_decades.at 9 rfl) rfl rfl ?_
          exact a_iret (kX5_decades.at 10 rfl) (by unfold o_decades; first | (rw [if_neg (by omega)]; exact ⟨rfl, Fy.refl M⟩) | (rw [if_pos (by omega), eD (by omega)]; unfold sumBy; first | (rw [if_pos (by omega)]; exact ⟨m4.1, hy4⟩) | (rw [if_neg (by omega), if_pos (by omega)]; exact ⟨m4.2.1, hy4⟩)))
