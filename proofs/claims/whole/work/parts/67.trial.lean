/-! ===== the class: trials: settle, think, rest ===== -/
theorem k_loadT (G : GT) (M K : Mem) (sub : Int) (hC : Cp M K) (h : MB K) (hs : 0 ≤ sub ∧ sub ≤ 255) : AM G yX1_load cX1_load 5 none 1 M [vR 5, vR 1, vR 2, vI sub] (pV fun N => LPd M N 1 sub) := k_load G M 1 sub (by omega) (by rw [hC.2.1.2.1]; exact (reads_IR K h.1.1).1) hC.1.2.2 hs
theorem k_runT (G : GT) (M R : Mem) (hL : LD M 1 R) (hI : IR R) (hE : EV R) : AM G yX1_run cX1_run 2 none 3 M [vR 5] (pV fun N => SC N 1 (lives R) ∧ TR N 1 (lives R) 16 ∧ SR (lives R) 16 0 0 ∧ Fg 1 M N) := k_run G M R 1 (by omega) hL hI hE
theorem LPd.y {M N : Mem} {sub : Int} (h : LPd M N 1 sub) : Fy M N := fun c x a b d e => h.2 c x (by omega) (by omega)
theorem Fg.y {M N : Mem} (h : Fg 1 M N) : Fy M N := fun c x a b d e => h c x (by omega) (by omega) (by omega) (by omega) (by omega) (by omega) (by omega)
theorem LPd.d {M N : Mem} {sub : Int} (h : LPd M N 1 sub) : ∀ x, N 6 x = M 6 x := fun x => h.2 6 x (by omega) (by omega)
theorem Fg.d {M N : Mem} (h : Fg 1 M N) : ∀ x, N 6 x = M 6 x := fun x => h 6 x (by omega) (by omega) (by omega) (by omega) (by omega) (by omega) (by omega)
theorem LD_all {M K N : Mem} (hC : Cp M K) (h : MB K) (hL : LPd M N 1 255) : LD N 1 (reads K).1 := by
  have z := LD_load (g := 0) hC.1 hC.2.1 h hL (fun e a b => by have y := in255 (e := e) (by have := h.1.2.2; omega); exact ⟨fun _ => y.2, fun _ => y.1⟩)
  rw [reads_g0 h] at z
  exact z
theorem reads_12 {K : Mem} (h : MB K) : (reads K).1 44 12 = -1 := (reads_BI h).1.2.2
theorem plW1_of {R R' : Mem} (e9 : R' 44 9 = R 44 9) (e11 : R' 44 11 = R 44 11) (e51 : ∀ j, R' 51 j = R 51 j) (q : Int) : plW1 R' q = plW1 R q := by
  unfold plW1
  rw [e9]
  refine forR_cong fun e w _ _ => ?_
  unfold plE
  rw [e51, e51, e51, e11]
/-- loaded, and one of the people altered -/
theorem LD_at {N R : Mem} (h : LD N 1 R) (d : Nat) (hd : d < 3) (k v : Int) (hk : 0 ≤ k ∧ k < R 44 7) : LD (upm N (32 + d) k v) 1 (upm R 50 (3 * k + d) v) := by
  have e : ∀ (c : Nat) x, c ≠ 32 + d → upm N (32 + d) k v c x = N c x := fun c x u => rd_ne u
  have pl : ∀ q, plW (upm R 50 (3 * k + d) v) q = plW R q := fun q => by
    unfold plW
    rw [plW1_of (R := R) (R' := upm R 50 (3 * k + d) v) rfl rfl (fun _ => rfl) q]
    rfl
  have a8 : upm N (32 + d) k v 5 8 = N 5 8 := e 5 8 (by omega)
  refine ⟨a8.trans h.1, fun p a b => ?_, fun q a b => ?_⟩
  · have b' : p < R 44 7 := b
    have z := h.2.1 p a b'
    have z0 : N 32 p = R 50 (3 * p) := z.1
    have z1 : N 33 p = R 50 (3 * p + 1) := z.2.1
    have z2 : N 34 p = R 50 (3 * p + 2) := z.2.2
    show upm N (32 + d) k v 32 p = upm R 50 (3 * k + d) v 50 (3 * p) ∧ upm N (32 + d) k v 33 p = upm R 50 (3 * k + d) v 50 (3 * p + 1) ∧ upm N (32 + d) k v 34 p = upm R 50 (3 * k + d) v 50 (3 * p + 2)
    rcases (show d = 0 ∨ d = 1 ∨ d = 2 by omega) with rfl | rfl | rfl
    · rw [e 33 p (by omega), e 34 p (by omega), rd_ni (j := 3 * p + 1) (by omega), rd_ni (j := 3 * p + 2) (by omega)]
      refine ⟨?_, z1, z2⟩
      by_cases ep : p = k
      · rw [ep, rd_eq, show 3 * k + ((0 : Nat) : Int) = 3 * k by omega, rd_eq]
      · rw [rd_ni ep, rd_ni (by omega)]; exact z0
    · rw [e 32 p (by omega), e 34 p (by omega), rd_ni (j := 3 * p) (by omega), rd_ni (j := 3 * p + 2) (by omega)]
      refine ⟨z0, ?_, z2⟩
      by_cases ep : p = k
      · rw [ep, rd_eq, show 3 * k + 1 = 3 * k + ((1 : Nat) : Int) by omega, rd_eq]
      · rw [rd_ni ep, rd_ni (by omega)]; exact z1
    · rw [e 32 p (by omega), e 33 p (by omega), rd_ni (j := 3 * p) (by omega), rd_ni (j := 3 * p + 1) (by omega)]
      refine ⟨z0, z1, ?_⟩
      by_cases ep : p = k
      · rw [ep, rd_eq, show 3 * k + 2 = 3 * k + ((2 : Nat) : Int) by omega, rd_eq]
      · rw [rd_ni ep, rd_ni (by omega)]; exact z2
  · rw [pl q]
    have z : N 35 q = plW R q := h.2.2 q a b
    show upm N (32 + d) k v 35 q = plW R q
    rw [e 35 q (by omega)]
    exact z
/-- loaded, and one event more -/
theorem LD_plan {N R R' : Mem} {q0 kind p : Int} (h : LD N 1 R) (h12 : R 44 12 = -1) (hq : 0 ≤ q0) (e12 : R' 44 12 = q0) (e13 : R' 44 13 = kind) (e14 : kind = 3 ∨ R' 44 14 = p) (e7 : R' 44 7 = R 44 7) (e9 : R' 44 9 = R 44 9) (e11 : R' 44 11 = R 44 11) (e50 : ∀ j, R' 50 j = R 50 j) (e51 : ∀ j, R' 51 j = R 51 j) : LD (upm N 35 q0 (plS (N 35 q0) kind p)) 1 R' := by
  have e : ∀ (c : Nat) x, c ≠ 35 → upm N 35 q0 (plS (N 35 q0) kind p) c x = N c x := fun c x u => rd_ne u
  have a8 : upm N 35 q0 (plS (N 35 q0) kind p) 5 8 = N 5 8 := e 5 8 (by omega)
  refine ⟨by rw [e7]; exact a8.trans h.1, fun x a b => ?_, fun q a b => ?_⟩
  · rw [e7] at b
    rw [e50, e50, e50]
    exact h.2.1 x a b
  · have z : N 35 q = plW R q := h.2.2 q a b
    have y : plW R q = plW1 R q := if_neg (by omega)
    have w : plW1 R' q = plW1 R q := plW1_of e9 e11 e51 q
    show upm N 35 q0 (plS (N 35 q0) kind p) 35 q = plW R' q
    unfold plW
    rw [e12, e13, w]
    by_cases eq : q0 = q
    · subst eq
      rw [rd_eq, if_pos rfl, z, y]
      rcases e14 with e14 | e14
      · unfold plS
        rw [if_pos e14, if_pos e14]
      · rw [e14]
    · rw [rd_ni (fun u => eq u.symm), if_neg eq, z, y]
theorem isFree_iff {R : Mem} {k x : Int} (hp : 0 ≤ R 44 7) : (isFree R k x ≠ 0 ↔ ∀ j, 0 ≤ j → j < R 44 7 → j = k ∨ R 50 (3 * j + 2) ≠ x) := by
  refine forR_inv (lo := 0) (hi := R 44 7) (f := ifF R k x) (a := 1) (fun i y => y ≠ 0 ↔ ∀ j, 0 ≤ j → j < i → j = k ∨ R 50 (3 * j + 2) ≠ x) hp ⟨fun _ j a b => by omega, fun _ => by omega⟩ (fun i y a b hy => ?_)
  unfold ifF
  by_cases e : y ≠ 0 ∧ (i = k ∨ R 50 (3 * i + 2) ≠ x)
  · rw [if_pos e]
    refine ⟨fun _ j c d => ?_, fun _ => by omega⟩
    by_cases ej : j = i
    · rw [ej]; exact e.2
    · exact hy.mp e.1 j c (by omega)
  · rw [if_neg e]
    refine ⟨fun z => absurd rfl z, fun z => ?_⟩
    exact absurd ⟨hy.mpr (fun j c d => z j c (by omega)), z i a (by omega)⟩ e
set_option maxHeartbeats 4000000 in
set_option maxRecDepth 100000 in
theorem l_kfree (G : GT) (M R : Mem) (k x : Int) (h5 : M 1 5 = R 44 7) (hp8 : 0 ≤ R 44 7 ∧ R 44 7 ≤ 8) (h17 : ∀ p, 0 ≤ p → p < R 44 7 → M 17 p = R 50 (3 * p + 2)) (hlohi : (0 : Int) ≤ (R 44 7)) (kk : (∀ j, 0 ≤ j → j < (R 44 7) → j = k ∨ R 50 (3 * j + 2) ≠ x) → AW G RX3 cX3_isFreeFor 4 (some .boolean) (XM G 0 (qI (bI (isFree R k x ≠ 0)) M)) 33 [(0, vR 1), (1, vI k), (2, vI x), (3, vI (R 44 7))] [] M) : AW G RX3 cX3_isFreeFor 4 (some .boolean) (XM G 0 (qI (bI (isFree R k x ≠ 0)) M)) 2 [(0, vR 1), (1, vI k), (2, vI x), (3, vI 0)] [] M := by
  have key : ∀ (nn : Nat) (p : Int) , (0 : Int) ≤ p → p ≤ (R 44 7) → (∀ j, 0 ≤ j → j < p → j = k ∨ R 50 (3 * j + 2) ≠ x) → (R 44 7) - p < nn → AW G RX3 cX3_isFreeFor 4 (some .boolean) (XM G 0 (qI (bI (isFree R k x ≠ 0)) M)) 2 [(0, vR 1), (1, vI k), (2, vI x), (3, vI p)] [] M := by
    intro nn
    induction nn with
    | zero => intro p  hk0 hk1  hI hn; omega
    | succ nn ih =>
      intro p  hk0 hk1  hI hn
      refine a_iload_n (kX3_isFreeFor.at 2 rfl) 3 rfl ?_
      refine a_aload_n (kX3_isFreeFor.at 3 rfl) 0 rfl ?_
      refine a_getI (x := M 1 5) (kX3_isFreeFor.at 4 rfl) fg_X3_39 ii_1_5 (rfl) ?_
      refine a_icmpge (tgt := 33) (kX3_isFreeFor.at 5 rfl) (by decide) (fun h7 => ?_) (fun h7 => ?_)
      · obtain rfl : p = R 44 7 := by omega
        exact kk hI
      · refine a_iload_n (kX3_isFreeFor.at 6 rfl) 3 rfl ?_
        refine a_iload_n (kX3_isFreeFor.at 7 rfl) 1 rfl ?_
        refine a_icmpeq (tgt := 27) (kX3_isFreeFor.at 8 rfl) (by decide) (fun h12 => ?_) (fun h12 => ?_)
        · refine a_iinc (ls' := [(0, vR 1), (1, vI k), (2, vI x), (3, vI (p + 1))]) (kX3_isFreeFor.at 17 rfl) 3 rfl (by decide) (inr (by omega)) rfl ?_
          refine a_goto (tgt := 2) (kX3_isFreeFor.at 18 rfl) (by decide) ?_
          exact ih ((p + 1))  (by omega) (by omega) (fun j a b => if e : j = p then (by rw [e]; first | exact Or.inl h12 | exact Or.inr (by rw [← h17 p (by omega) (by omega)]; exact h22)) else hI j a (by omega)) (by omega)
        · refine a_aload_n (kX3_isFreeFor.at 9 rfl) 0 rfl ?_
          refine a_getR (kX3_isFreeFor.at 10 rfl) fg_X3_21 ir_1_3 ?_
          refine a_iload_n (kX3_isFreeFor.at 11 rfl) 3 rfl ?_
          refine a_iald (x := M 17 p) (kX3_isFreeFor.at 12 rfl) (ia_17) (by omega) (rfl) ?_
          refine a_iload_n (kX3_isFreeFor.at 13 rfl) 2 rfl ?_
          refine a_icmpne (tgt := 27) (kX3_isFreeFor.at 14 rfl) (by decide) (fun h22 => ?_) (fun h22 => ?_)
          · refine a_iinc (ls' := [(0, vR 1), (1, vI k), (2, vI x), (3, vI (p + 1))]) (kX3_isFreeFor.at 17 rfl) 3 rfl (by decide) (inr (by omega)) rfl ?_
            refine a_goto (tgt := 2) (kX3_isFreeFor.at 18 rfl) (by decide) ?_
            exact ih ((p + 1))  (by omega) (by omega) (fun j a b => if e : j = p then (by rw [e]; first | exact Or.inl h12 | exact Or.inr (by rw [← h17 p (by omega) (by omega)]; exact h22)) else hI j a (by omega)) (by omega)
          · refine a_iconst (kX3_isFreeFor.at 15 rfl) rfl ?_
            exact a_zretE (kX3_isFreeFor.at 16 rfl) (by first | exact Or.inl rfl | exact Or.inr rfl | omega) (⟨(bI_0 (fun z => by have y := (isFree_iff hp8.1).mp z p (by omega) (by omega); rw [← h17 p (by omega) (by omega)] at y; omega)).symm, rfl⟩)
  exact key ((R 44 7) - (0) + 1 : Int).toNat (0)  (Int.le_refl _) hlohi  (fun j a b => by omega) (by omega)
theorem k_isFreeFor (G : GT) (M R : Mem) (k x : Int) (h5 : M 1 5 = R 44 7) (hp8 : 0 ≤ R 44 7 ∧ R 44 7 ≤ 8) (h17 : ∀ p, 0 ≤ p → p < R 44 7 → M 17 p = R 50 (3 * p + 2)) : AM G yX3_isFreeFor cX3_isFreeFor 4 (some .boolean) 0 M [vR 1, vI k, vI x] (qI (bI (isFree R k x ≠ 0)) M) := by
  refine AM.mk (own := RX3) rfl sv_X3_isFreeFor.1.2.2.2.2.2 (Nat.le_of_ble_eq_true rfl) rfl ?_
  refine a_iconst (kX3_isFreeFor.at 0 rfl) rfl ?_
  refine a_istore_n (ls' := [(0, vR 1), (1, vI k), (2, vI x), (3, vI 0)]) (kX3_isFreeFor.at 1 rfl) (by decide) rfl ?_
  refine l_kfree G M R k x h5 hp8 h17 hp8.1 ?_
  intro hN
  show AW _ _ _ _ _ _ 33 [(0, vR 1), (1, vI k), (2, vI x), (3, vI (R 44 7))] [] M
  refine a_iconst (kX3_isFreeFor.at 19 rfl) rfl ?_
  exact a_zretE (kX3_isFreeFor.at 20 rfl) (by first | exact Or.inl rfl | exact Or.inr rfl | omega) (⟨(bI_1 ((isFree_iff hp8.1).mpr hN)).symm, rfl⟩)
noncomputable def ofM (M : Mem) (c m : Int) : Mem := if M 6 0 = -1 ∨ m < M 6 1 then upm (upm M 6 0 c) 6 1 m else M
theorem k_offerM (G : GT) (M : Mem) (c m : Int) : AM G yX0_offer cX0_offer 3 none 0 M [vR 6, vI c, vI m] (qV (ofM M c m)) := k_offer G M c m
theorem ofM_y (M : Mem) (c m : Int) : Fy M (ofM M c m) := fun k x a b d e => by
  unfold ofM
  split
  · rw [rd_ne d, rd_ne d]
  · rfl
/-- the class's choice beside the reference's -/
noncomputable def chR (N : Mem) (z : Int × Int) (b : Prop) : Prop := ((N 6 0 = -1 ∧ z = (-1, 999)) ∨ (N 6 0 ≠ -1 ∧ N 6 0 = z.1 ∧ N 6 1 = z.2)) ∧ (b → N 6 0 ≠ -1)
theorem chR_go {N N3 : Mem} {z : Int × Int} {b b' : Prop} {c m : Int} (h : chR N z b) (e : ∀ x, N3 6 x = N 6 x) (hc : 0 ≤ c) (hm : m < 999) : chR (ofM N3 c m) (if m < z.2 then c else z.1, lesser m z.2) b' := by
  unfold ofM lesser
  rw [e, e]
  rcases h.1 with ⟨h1, h2⟩ | ⟨h1, h2, h3⟩
  · rw [if_pos (Or.inl h1), h2, if_pos (show m < ((-1, 999) : Int × Int).2 from hm), if_pos (show m < ((-1, 999) : Int × Int).2 from hm)]
    have e0 : upm (upm N3 6 0 c) 6 1 m 6 0 = c := by rw [rd_ni (by omega), rd_eq]
    exact ⟨Or.inr ⟨by rw [e0]; omega, e0, rd_eq⟩, fun _ => by rw [e0]; omega⟩
  · by_cases hl : m < N 6 1
    · rw [if_pos (Or.inr hl), if_pos (by omega), if_pos (by omega)]
      have e0 : upm (upm N3 6 0 c) 6 1 m 6 0 = c := by rw [rd_ni (by omega), rd_eq]
      exact ⟨Or.inr ⟨by rw [e0]; omega, e0, rd_eq⟩, fun _ => by rw [e0]; omega⟩
    · rw [if_neg (by omega), if_neg (by omega), if_neg (by omega)]
      exact ⟨Or.inr ⟨by rw [e]; exact h1, by rw [e]; exact h2, by rw [e]; exact h3⟩, fun _ => by rw [e]; exact h1⟩
theorem chR.end {N : Mem} {z : Int × Int} {b : Prop} (h : chR N z b) (hb : b) : N 6 0 = z.1 ∧ N 6 1 = z.2 := by
  rcases h.1 with h1 | h1
  · exact absurd h1.1 (h.2 hb)
  · exact h1.2
theorem own_free {R : Mem} (hI : IR R) {k : Int} (hk : 0 ≤ k ∧ k < R 44 7) : isFree R k (R 50 (3 * k + 2)) ≠ 0 := (isFree_iff hI.1.1).mpr fun j a b => by
  by_cases e : j = k
  · exact Or.inl e
  · exact Or.inr (fun u => e (hI.2.2 j k a b hk.1 hk.2 u))
theorem IR_free {R : Mem} (hI : IR R) {k x : Int} (hk : 0 ≤ k ∧ k < R 44 7) (hx : 0 ≤ x ∧ x ≤ 9) (hf : isFree R k x ≠ 0) : IR (upm R 50 (3 * k + 2) x) := by
  have hf := (isFree_iff hI.1.1).mp hf
  refine ⟨hI.1, fun p a b => ?_, fun p q a b c d e => ?_⟩
  · have b' : p < R 44 7 := b
    rw [rd_ni (by omega)]
    refine ⟨(hI.2.1 p a b').1, ?_⟩
    by_cases ep : p = k
    · rw [ep, rd_eq]; exact hx
    · rw [rd_ni (by omega)]; exact (hI.2.1 p a b').2
  · have b' : p < R 44 7 := b
    have d' : q < R 44 7 := d
    by_cases ep : p = k
    · by_cases eq : q = k
      · omega
      · rw [ep, rd_eq, rd_ni (by omega)] at e
        rcases hf q c d' with u | u
        · omega
        · exact absurd e.symm u
    · by_cases eq : q = k
      · rw [eq, rd_eq, rd_ni (by omega)] at e
        rcases hf p a b' with u | u
        · omega
        · exact absurd e u
      · rw [rd_ni (by omega), rd_ni (by omega)] at e
        exact hI.2.2 p q a b' c d' e
theorem EV.at50 {R : Mem} (h : EV R) (j v : Int) : EV (upm R 50 j v) := h
theorem st_skip {R : Mem} {k x : Int} {z : Int × Int} (h : ¬ isFree R k x ≠ 0) : stP R k x z = z := if_pos (by omega)
theorem st_go {R : Mem} {k x m : Int} {z : Int × Int} (h : isFree R k x ≠ 0) (e : m = mvS R k x) : stP R k x z = (if m < z.2 then x else z.1, lesser m z.2) := by
  subst e
  exact if_neg h
theorem SC.m {N K : Mem} (h : SC N 1 K) (hR : SR K 16 0 0) : N 5 9 = movesNow K ∧ N 5 9 < 999 := by
  have z : N 5 9 = movesNow K := h.2.2.2.1.1
  have y := hR.2.2.2.2.2.2.2
  exact ⟨z, by omega⟩
set_option maxHeartbeats 4000000 in
set_option maxRecDepth 100000 in
theorem l_ksettle (G : GT) (M K : Mem) (k w : Int) (P : Option AV → Mem → Prop) (hC : Cp M K) (h : MB K) (hI : CI K) (hk : 0 ≤ k ∧ k < (reads K).1 44 7) (hM : M 6 0 = -1) (hlohi : (0 : Int) ≤ 10) (kk : ∀ (N : Mem), (Fy M N) → (chR N (forR 0 10 (stP (reads K).1 k) (-1, 999)) ((reads K).1 50 (3 * k + 2) < 10)) → AW G RX5 cX5_settle 4 (some .int) (XM G 4 P) 105 [(0, vR 0), (1, vI k), (2, vI w), (3, vI 10)] [] N) : AW G RX5 cX5_settle 4 (some .int) (XM G 4 P) 28 [(0, vR 0), (1, vI k), (2, vI w), (3, vI 0)] [] M := by
  have key : ∀ (nn : Nat) (x : Int)  (N : Mem), (0 : Int) ≤ x → x ≤ 10 → (Fy M N) → (chR N (forR 0 x (stP (reads K).1 k) (-1, 999)) ((reads K).1 50 (3 * k + 2) < x)) → 10 - x < nn → AW G RX5 cX5_settle 4 (some .int) (XM G 4 P) 28 [(0, vR 0), (1, vI k), (2, vI w), (3, vI x)] [] N := by
    intro nn
    induction nn with
    | zero => intro x N hk0 hk1  hy hz hn; omega
    | succ nn ih =>
      intro x N hk0 hk1  hy hz hn
      have hCN := hC.y h hy
      have hTX := hCN.2.1
      have hp8 := hI.1.1
      refine a_iload_n (kX5_settle.at 15 rfl) 3 rfl ?_
      refine a_bipush (kX5_settle.at 16 rfl) rfl rfl ?_
      refine a_icmpge (tgt := 105) (kX5_settle.at 17 rfl) (by decide) (fun h31 => ?_) (fun h31 => ?_)
      · obtain rfl : x = 10 := by omega
        exact kk N hy hz
      · refine a_aload_n (kX5_settle.at 18 rfl) 0 rfl ?_
        refine a_getR (kX5_settle.at 19 rfl) fg_X5_10 ir_0_0 ?_
        refine a_iload_n (kX5_settle.at 20 rfl) 1 rfl ?_
        refine a_iload_n (kX5_settle.at 21 rfl) 3 rfl ?_
        refine AW.callV (as := [vI k, vI x]) (st := []) (kX5_settle.at 22 rfl) ml_X5_154 sv_X3_isFreeFor (k := 1) (io_1) rfl rfl ⟨Nat.le_of_ble_eq_true rfl, Nat.le_of_ble_eq_true rfl⟩ ⟨Nat.le_refl _, Nat.le_refl _⟩ rfl rfl (Nat.le_of_ble_eq_true rfl) (k_isFreeFor G N (reads K).1 k x hTX.2.1 hI.1.1 (fun p a b => (hTX.2.2 p a b).2.2)) (kIE ?_)
        refine a_ifneB (tgt := 49) (kX5_settle.at 23 rfl) (by decide) (fun h43 => ?_) (fun h43 => ?_)
        · refine a_aload_n (kX5_settle.at 25 rfl) 0 rfl ?_
          refine a_getR (kX5_settle.at 26 rfl) fg_X5_33 ir_0_4 ?_
          refine a_aload_n (kX5_settle.at 27 rfl) 0 rfl ?_
          refine a_getR (kX5_settle.at 28 rfl) fg_X5_10 ir_0_0 ?_
          refine a_aload_n (kX5_settle.at 29 rfl) 0 rfl ?_
          refine a_getR (kX5_settle.at 30 rfl) fg_X5_19 ir_0_1 ?_
          refine a_sipush (kX5_settle.at 31 rfl) rfl rfl ?_
          refine AW.callV (as := [vR 1, vR 2, vI 255]) (st := []) (kX5_settle.at 32 rfl) ml_X5_157 sv_X1_load (k := 5) (io_5) rfl rfl ⟨Nat.le_of_ble_eq_true rfl, Nat.le_of_ble_eq_true rfl⟩ ⟨Nat.le_refl _, Nat.le_refl _⟩ rfl rfl (Nat.le_of_ble_eq_true rfl) (k_loadT G N K 255 hCN h (by omega)) (kV fun N2 hN2 => ?_)
          skip
          refine a_aload_n (kX5_settle.at 33 rfl) 0 rfl ?_
          refine a_getR (kX5_settle.at 34 rfl) fg_X5_33 ir_0_4 ?_
          refine a_getR (kX5_settle.at 35 rfl) fg_X5_161 ir_5_2 ?_
          refine a_iload_n (kX5_settle.at 36 rfl) 1 rfl ?_
          refine a_iload_n (kX5_settle.at 37 rfl) 3 rfl ?_
          refine a_iast (kX5_settle.at 38 rfl) (ia_34) (by omega) ?_
          refine a_aload_n (kX5_settle.at 39 rfl) 0 rfl ?_
          refine a_getR (kX5_settle.at 40 rfl) fg_X5_33 ir_0_4 ?_
          refine AW.callV (as := []) (st := []) (kX5_settle.at 41 rfl) ml_X5_162 sv_X1_run (k := 5) (io_5) rfl rfl ⟨Nat.le_of_ble_eq_true rfl, Nat.le_of_ble_eq_true rfl⟩ ⟨Nat.le_refl _, Nat.le_refl _⟩ rfl rfl (Nat.le_of_ble_eq_true rfl) (k_runT G (upm N2 34 k x) (upm (reads K).1 50 (3 * k + 2) x) (LD_at (LD_all hCN h hN2) 2 (by omega) k x hk) (IR_free hI.1 hk (by omega) h43) (hI.2.at50 _ _)) (kV fun N3 hN3 => ?_)
          skip
          obtain ⟨s3, t3, r3, f3⟩ := hN3
          have hm := s3.m r3
          refine a_aload_n (kX5_settle.at 42 rfl) 0 rfl ?_
          refine a_getR (kX5_settle.at 43 rfl) fg_X5_39 ir_0_5 ?_
          refine a_iload_n (kX5_settle.at 44 rfl) 3 rfl ?_
          refine a_aload_n (kX5_settle.at 45 rfl) 0 rfl ?_
          refine a_getR (kX5_settle.at 46 rfl) fg_X5_33 ir_0_4 ?_
          refine a_getI (x := N3 5 9) (kX5_settle.at 47 rfl) fg_X5_133 ii_5_9 (rfl) ?_
          have hy5 : Fy M (ofM N3 x (N3 5 9)) := (hy.trans hN2.y).trans ((show Fy N2 (upm N2 34 k x) from fun c y a b d e => rd_ne (by omega)).trans (f3.y.trans (ofM_y _ _ _)))
          have hz5 : chR (ofM N3 x (N3 5 9)) (forR 0 (x + 1) (stP (reads K).1 k) (-1, 999)) ((reads K).1 50 (3 * k + 2) < x + 1) := by
            rw [forR_succ hk0, st_go h43 hm.1]
            exact chR_go hz (fun y => by rw [f3.d, rd_ne (by omega), hN2.d]) hk0 hm.2
          refine AW.callV (as := [vI x, vI (N3 5 9)]) (st := []) (kX5_settle.at 48 rfl) ml_X5_165 sv_X0_offer (k := 6) (io_6) rfl rfl ⟨Nat.le_of_ble_eq_true rfl, Nat.le_of_ble_eq_true rfl⟩ ⟨Nat.le_refl _, Nat.le_refl _⟩ rfl rfl (Nat.le_of_ble_eq_true rfl) (k_offerM G N3 x (N3 5 9)) (kVE ?_)
          refine a_iinc (ls' := [(0, vR 0), (1, vI k), (2, vI w), (3, vI (x + 1))]) (kX5_settle.at 49 rfl) 3 rfl (by decide) (inr (by omega)) rfl ?_
          refine a_goto (tgt := 28) (kX5_settle.at 50 rfl) (by decide) ?_
          exact ih ((x + 1)) ((ofM N3 x (N3 5 9))) (by omega) (by omega) (by first | exact hy5 | exact hy) (by first | exact hz5 | exact hzs) (by omega)
        · have hzs : chR N (forR 0 (x + 1) (stP (reads K).1 k) (-1, 999)) ((reads K).1 50 (3 * k + 2) < x + 1) := by
            rw [forR_succ hk0, st_skip h43]
            refine ⟨hz.1, fun u => hz.2 ?_⟩
            have ne : (reads K).1 50 (3 * k + 2) ≠ x := fun v => h43 (by rw [← v]; exact own_free hI.1 hk)
            omega
          refine a_goto (tgt := 99) (kX5_settle.at 24 rfl) (by decide) ?_
          refine a_iinc (ls' := [(0, vR 0), (1, vI k), (2, vI w), (3, vI (x + 1))]) (kX5_settle.at 49 rfl) 3 rfl (by decide) (inr (by omega)) rfl ?_
          refine a_goto (tgt := 28) (kX5_settle.at 50 rfl) (by decide) ?_
          exact ih ((x + 1)) (N) (by omega) (by omega) (by first | exact hy5 | exact hy) (by first | exact hz5 | exact hzs) (by omega)
  exact key ((10) - (0) + 1 : Int).toNat (0) M (Int.le_refl _) hlohi  (Fy.refl M) (⟨Or.inl ⟨hM, forR_nil (Int.le_refl _)⟩, fun u => absurd u (by have := (hI.1.2.1 k hk.1 hk.2).2; omega)⟩) (by omega)
theorem settle_eq {K : Mem} (h : MB K) {k w : Int} (hk : 0 ≤ k ∧ k < (reads K).1 44 7) : settleS (find K) k w = settleS (reads K).1 k w := settleS_E (rf_InE K) (reads_BI h).1 hk w
theorem k_settle (G : GT) (M K : Mem) (k w : Int) (hC : Cp M K) (h : MB K) : AM G yX5_settle cX5_settle 4 (some .int) 4 M [vR 0, vI k, vI w] (pI fun r N => r = o_settle K k w ∧ Fy M N) := by
  refine AM.mk (own := RX5) rfl sv_X5_settle.1.2.2.2.2.2 (Nat.le_of_ble_eq_true rfl) rfl ?_
  have hI := CI_of hC h
  have ef := find_p K
  have hp := hI.1.1
  have e5 := hC.2.1.2.1
  have y0 : Fy M (upm (upm M 6 0 (-1)) 6 1 0) := fun c x a b d e => by rw [rd_ne d, rd_ne d]
  refine a_aload_n (kX5_settle.at 0 rfl) 0 rfl ?_
  refine a_iload_n (kX5_settle.at 1 rfl) 1 rfl ?_
  refine AW.callV (as := [vI k]) (st := []) (kX5_settle.at 2 rfl) ml_X5_70 sv_X5_isPerson (k := 0) (io_0) rfl rfl ⟨Nat.le_of_ble_eq_true rfl, Nat.le_of_ble_eq_true rfl⟩ ⟨Nat.le_refl _, Nat.le_refl _⟩ rfl rfl (Nat.le_of_ble_eq_true rfl) (k_isPerson G M k) (kIE ?_)
  refine a_ifeqB (tgt := 16) (kX5_settle.at 3 rfl) (by decide) (fun h5 => ?_) (fun h5 => ?_)
  · refine a_bipush (kX5_settle.at 8 rfl) rfl rfl ?_
    exact a_iret (kX5_settle.at 9 rfl) (by unfold o_settle; first | (rw [if_neg (by omega)]; exact ⟨rfl, Fy.refl M⟩) | (rw [if_pos (by omega), settle_eq h (by omega)]; unfold settleS; first | (rw [if_pos (by omega)]; exact ⟨hz.1, y0.trans hy⟩) | (rw [if_neg (by omega)]; exact ⟨hz.2, y0.trans hy⟩)))
  · refine a_iload_n (kX5_settle.at 4 rfl) 2 rfl ?_
    refine a_iconst (kX5_settle.at 5 rfl) rfl ?_
    refine AW.callS (as := [vI w, vI 2]) (st := []) (kX5_settle.at 6 rfl) ml_X5_74 ss_X5_isBelow ⟨Nat.le_of_ble_eq_true rfl, Nat.le_of_ble_eq_true rfl⟩ ⟨Nat.le_refl _, Nat.le_refl _⟩ rfl rfl (Nat.le_of_ble_eq_true rfl) (k_isBelow G M w 2) (kIE ?_)
    refine a_ifneB (tgt := 19) (kX5_settle.at 7 rfl) (by decide) (fun h13 => ?_) (fun h13 => ?_)
    · refine a_aload_n (kX5_settle.at 10 rfl) 0 rfl ?_
      refine a_getR (kX5_settle.at 11 rfl) fg_X5_39 ir_0_5 ?_
      refine AW.callV (as := []) (st := []) (kX5_settle.at 12 rfl) ml_X5_151 sv_X0_clear (k := 6) (io_6) rfl rfl ⟨Nat.le_of_ble_eq_true rfl, Nat.le_of_ble_eq_true rfl⟩ ⟨Nat.le_refl _, Nat.le_refl _⟩ rfl rfl (Nat.le_of_ble_eq_true rfl) (k_clear G M) (kVE ?_)
      refine a_iconst (kX5_settle.at 13 rfl) rfl ?_
      refine a_istore_n (ls' := [(0, vR 0), (1, vI k), (2, vI w), (3, vI 0)]) (kX5_settle.at 14 rfl) (by decide) rfl ?_
      refine l_ksettle G (upm (upm M 6 0 (-1)) 6 1 0) K k w _ (hC.y h y0) h hI (by omega) (by rw [rd_ni (by omega), rd_eq]) (by omega) ?_
      intro N1 hy hz
      show AW _ _ _ _ _ _ 105 [(0, vR 0), (1, vI k), (2, vI w), (3, vI 10)] [] N1
      have hz := hz.end (by have := (hI.1.2.1 k (by omega) (by omega)).2; omega)
      refine a_iload_n (kX5_settle.at 51 rfl) 2 rfl ?_
      refine a_ifne (tgt := 119) (kX5_settle.at 52 rfl) (by decide) (fun h106 => ?_) (fun h106 => ?_)
      · refine a_aload_n (kX5_settle.at 57 rfl) 0 rfl ?_
        refine a_getR (kX5_settle.at 58 rfl) fg_X5_39 ir_0_5 ?_
        refine a_getI (x := N1 6 1) (kX5_settle.at 59 rfl) fg_X5_172 ii_6_1 (rfl) ?_
        exact a_iret (kX5_settle.at 60 rfl) (by unfold o_settle; first | (rw [if_neg (by omega)]; exact ⟨rfl, Fy.refl M⟩) | (rw [if_pos (by omega), settle_eq h (by omega)]; unfold settleS; first | (rw [if_pos (by omega)]; exact ⟨hz.1, y0.trans hy⟩) | (rw [if_neg (by omega)]; exact ⟨hz.2, y0.trans hy⟩)))
      · refine a_aload_n (kX5_settle.at 53 rfl) 0 rfl ?_
        refine a_getR (kX5_settle.at 54 rfl) fg_X5_39 ir_0_5 ?_
        refine a_getI (x := N1 6 0) (kX5_settle.at 55 rfl) fg_X5_169 ii_6_0 (rfl) ?_
        refine a_goto (tgt := 126) (kX5_settle.at 56 rfl) (by decide) ?_
        exact a_iret (kX5_settle.at 60 rfl) (by unfold o_settle; first | (rw [if_neg (by omega)]; exact ⟨rfl, Fy.refl M⟩) | (rw [if_pos (by omega), settle_eq h (by omega)]; unfold settleS; first | (rw [if_pos (by omega)]; exact ⟨hz.1, y0.trans hy⟩) | (rw [if_neg (by omega)]; exact ⟨hz.2, y0.trans hy⟩)))
    · refine a_bipush (kX5_settle.at 8 rfl) rfl rfl ?_
      exact a_iret (kX5_settle.at 9 rfl) (by unfold o_settle; first | (rw [if_neg (by omega)]; exact ⟨rfl, Fy.refl M⟩) | (rw [if_pos (by omega), settle_eq h (by omega)]; unfold settleS; first | (rw [if_pos (by omega)]; exact ⟨hz.1, y0.trans hy⟩) | (rw [if_neg (by omega)]; exact ⟨hz.2, y0.trans hy⟩)))
