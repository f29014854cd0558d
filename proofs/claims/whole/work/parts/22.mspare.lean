/-! ===== the reference: spare ===== -/
/-- the first for which it holds; -1 -/
noncomputable def fstR (lo hi : Int) (p : Int → Bool) : Int := forR lo hi (fun a f => if f ≠ -1 then f else if p a = true then a else -1) (-1)
theorem fst_none {lo hi : Int} {p : Int → Bool} (h : ∀ b, lo ≤ b → b < hi → ¬ p b = true) : fstR lo hi p = -1 := by
  unfold fstR
  by_cases hl : lo ≤ hi
  · refine forR_inv (fun _ f => f = -1) hl rfl (fun k f a b e => ?_)
    rw [if_neg (by omega), if_neg (h k a b)]
  · rw [forR_nil (by omega)]
theorem fst_found {lo hi a : Int} {p : Int → Bool} (h0 : 0 ≤ lo) (ha : lo ≤ a ∧ a < hi) (hp : p a = true) (h : ∀ b, lo ≤ b → b < a → ¬ p b = true) : fstR lo hi p = a := by
  have key : ∀ n : Nat, a + 1 + n ≤ hi → fstR lo (a + 1 + n) p = a := by
    intro n
    induction n with
    | zero =>
      intro _
      unfold fstR
      rw [show a + 1 + ((0 : Nat) : Int) = a + 1 by omega, forR_succ ha.1]
      have := fst_none h
      unfold fstR at this
      rw [this, if_neg (by simp), if_pos hp]
    | succ n ih =>
      intro hn
      have := ih (by omega)
      unfold fstR at this ⊢
      rw [show a + 1 + ((n + 1 : Nat) : Int) = (a + 1 + n) + 1 by omega, forR_succ (by omega), this, if_pos (by omega)]
  have := key (hi - (a + 1)).toNat (by omega)
  rw [show a + 1 + (((hi - (a + 1)).toNat : Nat) : Int) = hi by omega] at this
  exact this
theorem fst_spec {lo hi : Int} {p : Int → Bool} (h0 : 0 ≤ lo) : (fstR lo hi p = -1 ∧ ∀ b, lo ≤ b → b < hi → ¬ p b = true) ∨ (lo ≤ fstR lo hi p ∧ fstR lo hi p < hi ∧ p (fstR lo hi p) = true ∧ ∀ b, lo ≤ b → b < fstR lo hi p → ¬ p b = true) := by
  by_cases hx : ∃ a, lo ≤ a ∧ a < hi ∧ p a = true
  · -- the least one
    have : ∃ a, (lo ≤ a ∧ a < hi ∧ p a = true) ∧ ∀ b, lo ≤ b → b < a → ¬ p b = true := by
      obtain ⟨a, h1, h2, h3⟩ := hx
      have key : ∀ n : Nat, ∀ a, (a - lo).toNat = n → lo ≤ a → a < hi → p a = true → ∃ a, (lo ≤ a ∧ a < hi ∧ p a = true) ∧ ∀ b, lo ≤ b → b < a → ¬ p b = true := by
        intro n
        induction n using Nat.strongRecOn with
        | ind n ih =>
          intro a e h1 h2 h3
          by_cases hb : ∃ b, lo ≤ b ∧ b < a ∧ p b = true
          · obtain ⟨b, b1, b2, b3⟩ := hb
            exact ih (b - lo).toNat (by omega) b rfl b1 (by omega) b3
          · exact ⟨a, ⟨h1, h2, h3⟩, fun b b1 b2 b3 => hb ⟨b, b1, b2, b3⟩⟩
      exact key _ a rfl h1 h2 h3
    obtain ⟨a, ⟨h1, h2, h3⟩, h4⟩ := this
    have e := fst_found h0 ⟨h1, h2⟩ h3 h4
    rw [e]
    exact Or.inr ⟨h1, h2, h3, h4⟩
  · have h : ∀ b, lo ≤ b → b < hi → ¬ p b = true := fun b a c d => hx ⟨b, a, c, d⟩
    exact Or.inl ⟨fst_none h, h⟩
noncomputable def trG (M : Mem) (b : Int) : Int := lives (upm M 44 11 b) 44 24
theorem trG_E {M N : Mem} (hF : Fq M N) (hB : BI M) (b : Int) : trG N b = trG M b := by
  have h1 : Fq (upm M 44 11 b) (upm N 44 11 b) := hF.upboth 44 11 b
  exact (lives_E (h1.inE hB.2.2) hB.1.1.1).1.2.2.1
theorem c_isSpared (G : GT) (M : Mem) (b : Int) (hB : BI M) : AM G yX6_isSpared cX6_isSpared 2 (some .boolean) 5 M [vR 44, vI b] (pI fun r M' => r = bI (trG M b = 0) ∧ Fq M M') := by
  refine AM.mk (own := RX6) rfl sv_X6_isSpared.1.2.2.2.2.2 (Nat.le_of_ble_eq_true rfl) rfl ?_
  have hL := hB.1.fld (j := 11) (v := b) (by omega)
  have hF : Fq (upm M 44 11 b) (lives (upm M 44 11 b)) := (Fr_lives _).q
  have hF2 := hF.back
  rw [hB.2.1] at hF2
  refine a_aload_n (kX6_isSpared.at 0 rfl) 0 rfl ?_
  refine a_iload_n (kX6_isSpared.at 1 rfl) 1 rfl ?_
  refine a_putI (j := 11) (kX6_isSpared.at 2 rfl) fp_X6_174 (ii_44_11) rfl ?_
  refine a_aload_n (kX6_isSpared.at 3 rfl) 0 rfl ?_
  refine AW.callV (as := []) (st := []) (kX6_isSpared.at 4 rfl) ml_X6_200 sv_X6_lives (k := 44) (io_44) rfl rfl ⟨Nat.le_of_ble_eq_true rfl, Nat.le_of_ble_eq_true rfl⟩ ⟨Nat.le_refl _, Nat.le_refl _⟩ rfl rfl (Nat.le_of_ble_eq_true rfl) (c_lives G (upm M 44 11 b) hL.1 hL.2) (kVE ?_)
  refine a_aload_n (kX6_isSpared.at 5 rfl) 0 rfl ?_
  refine a_iconst (kX6_isSpared.at 6 rfl) rfl ?_
  refine a_putI (j := 11) (kX6_isSpared.at 7 rfl) fp_X6_174 (ii_44_11) rfl ?_
  refine a_aload_n (kX6_isSpared.at 8 rfl) 0 rfl ?_
  refine a_getI (x := (lives (upm M 44 11 b)) 44 24) (kX6_isSpared.at 9 rfl) fg_X6_162 ii_44_24 (rd_ni (by decide)) ?_
  refine a_ifne (tgt := 25) (kX6_isSpared.at 10 rfl) (by decide) (fun h18 => ?_) (fun h18 => ?_)
  · refine a_iconst (kX6_isSpared.at 13 rfl) rfl ?_
    exact a_zret (kX6_isSpared.at 14 rfl) (by first | exact Or.inl rfl | exact Or.inr rfl | omega) (⟨by first | rw [bI_1 (show trG M b = 0 from h18)] | rw [bI_0 (show ¬ trG M b = 0 from h18)], hF2⟩)
  · refine a_iconst (kX6_isSpared.at 11 rfl) rfl ?_
    refine a_goto (tgt := 26) (kX6_isSpared.at 12 rfl) (by decide) ?_
    exact a_zret (kX6_isSpared.at 14 rfl) (by first | exact Or.inl rfl | exact Or.inr rfl | omega) (⟨by first | rw [bI_1 (show trG M b = 0 from h18)] | rw [bI_0 (show ¬ trG M b = 0 from h18)], hF2⟩)
noncomputable def sp1 (M : Mem) : Int := fstR 0 (M 44 9) (fun a => decide (trG M (iShl 1 a) = 0))
noncomputable def sp2b (M : Mem) (a : Int) : Int := fstR (a + 1) (M 44 9) (fun b => decide (trG M (iOr (iShl 1 a) (iShl 1 b)) = 0))
noncomputable def sp2a (M : Mem) : Int := fstR 0 (M 44 9) (fun a => decide (sp2b M a ≠ -1))
noncomputable def spareS (M : Mem) (i : Int) : Int := if trG M 0 = 0 then (if i = -1 then 0 else -1) else if sp1 M ≠ -1 then (if i = -1 then 1 else if i = 0 then sp1 M else -1) else if sp2a M ≠ -1 then (if i = -1 then 2 else if i = 0 then sp2a M else sp2b M (sp2a M)) else -1
set_option maxHeartbeats 4000000 in
set_option maxRecDepth 100000 in
theorem l_spare1 (G : GT) (M : Mem) (i : Int) (hB : BI M) (h00 : ¬ trG M 0 = 0) (M0 : Mem) (hM0 : Fq M M0) (hlohi : (0 : Int) ≤ (M 44 9)) (kk : ∀ (N : Mem), (Fq M N) → (∀ b, 0 ≤ b → b < (M 44 9) → ¬ trG M (iShl 1 b) = 0) → AW G RX6 cX6_spareBy 4 (some .int) (XM G 6 (pI fun r M' => r = spareS M i ∧ Fq M M')) 64 [(0, vR 44), (1, vI i), (2, vI (M 44 9))] [] N) : AW G RX6 cX6_spareBy 4 (some .int) (XM G 6 (pI fun r M' => r = spareS M i ∧ Fq M M')) 21 [(0, vR 44), (1, vI i), (2, vI 0)] [] M0 := by
  have key : ∀ (nn : Nat) (a : Int)  (N : Mem), (0 : Int) ≤ a → a ≤ (M 44 9) → (Fq M N) → (∀ b, 0 ≤ b → b < a → ¬ trG M (iShl 1 b) = 0) → (M 44 9) - a < nn → AW G RX6 cX6_spareBy 4 (some .int) (XM G 6 (pI fun r M' => r = spareS M i ∧ Fq M M')) 21 [(0, vR 44), (1, vI i), (2, vI a)] [] N := by
    intro nn
    induction nn with
    | zero => intro a N hk0 hk1  hF hno hn; omega
    | succ nn ih =>
      intro a N hk0 hk1  hF hno hn
      have hBN := hB.Fq hF
      have e9 := hF 44 9 (by omega) (by omega) (by omega) (by omega)
      have he := hB.1.2
      refine a_iload_n (kX6_spareBy.at 13 rfl) 2 rfl ?_
      refine a_aload_n (kX6_spareBy.at 14 rfl) 0 rfl ?_
      refine a_getI (x := N 44 9) (kX6_spareBy.at 15 rfl) fg_X6_128 ii_44_9 (rfl) ?_
      refine a_icmpge (tgt := 64) (kX6_spareBy.at 16 rfl) (by decide) (fun h26 => ?_) (fun h26 => ?_)
      · obtain rfl : a = M 44 9 := by omega
        exact kk N hF hno
      · refine a_aload_n (kX6_spareBy.at 17 rfl) 0 rfl ?_
        refine a_iconst (kX6_spareBy.at 18 rfl) rfl ?_
        refine a_iload_n (kX6_spareBy.at 19 rfl) 2 rfl ?_
        refine a_ishl (kX6_spareBy.at 20 rfl) ?_
        refine AW.callV (as := [vI (iShl 1 a)]) (st := []) (kX6_spareBy.at 21 rfl) ml_X6_255 sv_X6_isSpared (k := 44) (io_44) rfl rfl ⟨Nat.le_of_ble_eq_true rfl, Nat.le_of_ble_eq_true rfl⟩ ⟨Nat.le_refl _, Nat.le_refl _⟩ rfl rfl (Nat.le_of_ble_eq_true rfl) (c_isSpared G N (iShl 1 a) hBN) (kI fun r N1 hr => ?_)
        obtain ⟨rfl, hF0⟩ := hr
        rw [trG_E hF hB]
        have hF1 := hF.trans hF0
        refine a_ifeqB (tgt := 58) (kX6_spareBy.at 22 rfl) (by decide) (fun h36 => ?_) (fun h36 => ?_)
        · refine a_iinc (ls' := [(0, vR 44), (1, vI i), (2, vI (a + 1))]) (kX6_spareBy.at 34 rfl) 2 rfl (by decide) (inr (by omega)) rfl ?_
          refine a_goto (tgt := 21) (kX6_spareBy.at 35 rfl) (by decide) ?_
          exact ih ((a + 1)) (N1) (by omega) (by omega) (hF1) (fun b x y => if e : b = a then (by rw [e]; exact h36) else hno b x (by omega)) (by omega)
        · have es : sp1 M = a := fst_found (by omega) (by omega) (by simpa using h36) (fun b x y => by simpa using hno b x y)
          refine a_iload_n (kX6_spareBy.at 23 rfl) 1 rfl ?_
          refine a_iconst (kX6_spareBy.at 24 rfl) rfl ?_
          refine a_icmpne (tgt := 48) (kX6_spareBy.at 25 rfl) (by decide) (fun h41 => ?_) (fun h41 => ?_)
          · refine a_iload_n (kX6_spareBy.at 28 rfl) 1 rfl ?_
            refine a_ifne (tgt := 56) (kX6_spareBy.at 29 rfl) (by decide) (fun h49 => ?_) (fun h49 => ?_)
            · refine a_iconst (kX6_spareBy.at 32 rfl) rfl ?_
              exact a_iret (kX6_spareBy.at 33 rfl) (⟨by unfold spareS; rw [if_neg h00, if_pos (by rw [es]; omega)]; first | rw [if_pos (by omega)] | rw [if_neg (by omega), if_pos (by omega), es] | rw [if_neg (by omega), if_neg (by omega)], hF1⟩)
            · refine a_iload_n (kX6_spareBy.at 30 rfl) 2 rfl ?_
              refine a_goto (tgt := 57) (kX6_spareBy.at 31 rfl) (by decide) ?_
              exact a_iret (kX6_spareBy.at 33 rfl) (⟨by unfold spareS; rw [if_neg h00, if_pos (by rw [es]; omega)]; first | rw [if_pos (by omega)] | rw [if_neg (by omega), if_pos (by omega), es] | rw [if_neg (by omega), if_neg (by omega)], hF1⟩)
          · refine a_iconst (kX6_spareBy.at 26 rfl) rfl ?_
            refine a_goto (tgt := 57) (kX6_spareBy.at 27 rfl) (by decide) ?_
            exact a_iret (kX6_spareBy.at 33 rfl) (⟨by unfold spareS; rw [if_neg h00, if_pos (by rw [es]; omega)]; first | rw [if_pos (by omega)] | rw [if_neg (by omega), if_pos (by omega), es] | rw [if_neg (by omega), if_neg (by omega)], hF1⟩)
  exact key ((M 44 9) - (0) + 1 : Int).toNat (0) M0 (Int.le_refl _) hlohi  (hM0) (fun b x y => by omega) (by omega)
set_option maxHeartbeats 4000000 in
set_option maxRecDepth 100000 in
theorem l_spare2b (G : GT) (M : Mem) (i a : Int) (hB : BI M) (h00 : ¬ trG M 0 = 0) (h1 : sp1 M = -1) (ha : 0 ≤ a ∧ a < M 44 9) (hna : ∀ c, 0 ≤ c → c < a → sp2b M c = -1) (M0 : Mem) (hM0 : Fq M M0) (hlohi : ((a + 1) : Int) ≤ (M 44 9)) (kk : ∀ (N : Mem), (Fq M N) → (∀ c, a + 1 ≤ c → c < (M 44 9) → ¬ trG M (iOr (iShl 1 a) (iShl 1 c)) = 0) → AW G RX6 cX6_spareBy 4 (some .int) (XM G 6 (pI fun r M' => r = spareS M i ∧ Fq M M')) 125 [(0, vR 44), (1, vI i), (2, vI a), (3, vI (M 44 9))] [] N) : AW G RX6 cX6_spareBy 4 (some .int) (XM G 6 (pI fun r M' => r = spareS M i ∧ Fq M M')) 78 [(0, vR 44), (1, vI i), (2, vI a), (3, vI (a + 1))] [] M0 := by
  have key : ∀ (nn : Nat) (b : Int)  (N : Mem), ((a + 1) : Int) ≤ b → b ≤ (M 44 9) → (Fq M N) → (∀ c, a + 1 ≤ c → c < b → ¬ trG M (iOr (iShl 1 a) (iShl 1 c)) = 0) → (M 44 9) - b < nn → AW G RX6 cX6_spareBy 4 (some .int) (XM G 6 (pI fun r M' => r = spareS M i ∧ Fq M M')) 78 [(0, vR 44), (1, vI i), (2, vI a), (3, vI b)] [] N := by
    intro nn
    induction nn with
    | zero => intro b N hk0 hk1  hF hno hn; omega
    | succ nn ih =>
      intro b N hk0 hk1  hF hno hn
      have hBN := hB.Fq hF
      have e9 := hF 44 9 (by omega) (by omega) (by omega) (by omega)
      have he := hB.1.2
      refine a_iload_n (kX6_spareBy.at 46 rfl) 3 rfl ?_
      refine a_aload_n (kX6_spareBy.at 47 rfl) 0 rfl ?_
      refine a_getI (x := N 44 9) (kX6_spareBy.at 48 rfl) fg_X6_128 ii_44_9 (rfl) ?_
      refine a_icmpge (tgt := 125) (kX6_spareBy.at 49 rfl) (by decide) (fun h83 => ?_) (fun h83 => ?_)
      · obtain rfl : b = M 44 9 := by omega
        exact kk N hF hno
      · refine a_aload_n (kX6_spareBy.at 50 rfl) 0 rfl ?_
        refine a_iconst (kX6_spareBy.at 51 rfl) rfl ?_
        refine a_iload_n (kX6_spareBy.at 52 rfl) 2 rfl ?_
        refine a_ishl (kX6_spareBy.at 53 rfl) ?_
        refine a_iconst (kX6_spareBy.at 54 rfl) rfl ?_
        refine a_iload_n (kX6_spareBy.at 55 rfl) 3 rfl ?_
        refine a_ishl (kX6_spareBy.at 56 rfl) ?_
        refine a_ior (kX6_spareBy.at 57 rfl) ?_
        refine AW.callV (as := [vI (iOr (iShl 1 a) (iShl 1 b))]) (st := []) (kX6_spareBy.at 58 rfl) ml_X6_255 sv_X6_isSpared (k := 44) (io_44) rfl rfl ⟨Nat.le_of_ble_eq_true rfl, Nat.le_of_ble_eq_true rfl⟩ ⟨Nat.le_refl _, Nat.le_refl _⟩ rfl rfl (Nat.le_of_ble_eq_true rfl) (c_isSpared G N (iOr (iShl 1 a) (iShl 1 b)) hBN) (kI fun r N1 hr => ?_)
        obtain ⟨rfl, hF0⟩ := hr
        rw [trG_E hF hB]
        have hF1 := hF.trans hF0
        refine a_ifeqB (tgt := 119) (kX6_spareBy.at 59 rfl) (by decide) (fun h97 => ?_) (fun h97 => ?_)
        · refine a_iinc (ls' := [(0, vR 44), (1, vI i), (2, vI a), (3, vI (b + 1))]) (kX6_spareBy.at 71 rfl) 3 rfl (by decide) (inr (by omega)) rfl ?_
          refine a_goto (tgt := 78) (kX6_spareBy.at 72 rfl) (by decide) ?_
          exact ih ((b + 1)) (N1) (by omega) (by omega) (hF1) (fun c x y => if e : c = b then (by rw [e]; exact h97) else hno c x (by omega)) (by omega)
        · have es : sp2b M a = b := fst_found (by omega) (by omega) (by simpa using h97) (fun c x y => by simpa using hno c x y)
          have ea : sp2a M = a := fst_found (by omega) (by omega) (by simp; omega) (fun c x y => by simpa using hna c x y)
          refine a_iload_n (kX6_spareBy.at 60 rfl) 1 rfl ?_
          refine a_iconst (kX6_spareBy.at 61 rfl) rfl ?_
          refine a_icmpne (tgt := 109) (kX6_spareBy.at 62 rfl) (by decide) (fun h102 => ?_) (fun h102 => ?_)
          · refine a_iload_n (kX6_spareBy.at 65 rfl) 1 rfl ?_
            refine a_ifne (tgt := 117) (kX6_spareBy.at 66 rfl) (by decide) (fun h110 => ?_) (fun h110 => ?_)
            · refine a_iload_n (kX6_spareBy.at 69 rfl) 3 rfl ?_
              exact a_iret (kX6_spareBy.at 70 rfl) (⟨by unfold spareS; rw [if_neg h00, if_neg (by rw [h1]; simp), if_pos (by rw [ea]; omega)]; first | rw [if_pos (by omega)] | rw [if_neg (by omega), if_pos (by omega), ea] | rw [if_neg (by omega), if_neg (by omega), ea, es], hF1⟩)
            · refine a_iload_n (kX6_spareBy.at 67 rfl) 2 rfl ?_
              refine a_goto (tgt := 118) (kX6_spareBy.at 68 rfl) (by decide) ?_
              exact a_iret (kX6_spareBy.at 70 rfl) (⟨by unfold spareS; rw [if_neg h00, if_neg (by rw [h1]; simp), if_pos (by rw [ea]; omega)]; first | rw [if_pos (by omega)] | rw [if_neg (by omega), if_pos (by omega), ea] | rw [if_neg (by omega), if_neg (by omega), ea, es], hF1⟩)
          · refine a_iconst (kX6_spareBy.at 63 rfl) rfl ?_
            refine a_goto (tgt := 118) (kX6_spareBy.at 64 rfl) (by decide) ?_
            exact a_iret (kX6_spareBy.at 70 rfl) (⟨by unfold spareS; rw [if_neg h00, if_neg (by rw [h1]; simp), if_pos (by rw [ea]; omega)]; first | rw [if_pos (by omega)] | rw [if_neg (by omega), if_pos (by omega), ea] | rw [if_neg (by omega), if_neg (by omega), ea, es], hF1⟩)
  exact key ((M 44 9) - (a + 1) + 1 : Int).toNat (a + 1) M0 (Int.le_refl _) hlohi  (hM0) (fun b x y => by omega) (by omega)
set_option maxHeartbeats 4000000 in
set_option maxRecDepth 100000 in
theorem l_spare2a (G : GT) (M : Mem) (i : Int) (hB : BI M) (h00 : ¬ trG M 0 = 0) (h1 : sp1 M = -1) (M0 : Mem) (hM0 : Fq M M0) (hlohi : (0 : Int) ≤ (M 44 9)) (kk : ∀ (N : Mem), (Fq M N) → (∀ c, 0 ≤ c → c < (M 44 9) → sp2b M c = -1) → AW G RX6 cX6_spareBy 4 (some .int) (XM G 6 (pI fun r M' => r = spareS M i ∧ Fq M M')) 131 [(0, vR 44), (1, vI i), (2, vI (M 44 9))] [] N) : AW G RX6 cX6_spareBy 4 (some .int) (XM G 6 (pI fun r M' => r = spareS M i ∧ Fq M M')) 66 [(0, vR 44), (1, vI i), (2, vI 0)] [] M0 := by
  have key : ∀ (nn : Nat) (a : Int)  (N : Mem), (0 : Int) ≤ a → a ≤ (M 44 9) → (Fq M N) → (∀ c, 0 ≤ c → c < a → sp2b M c = -1) → (M 44 9) - a < nn → AW G RX6 cX6_spareBy 4 (some .int) (XM G 6 (pI fun r M' => r = spareS M i ∧ Fq M M')) 66 [(0, vR 44), (1, vI i), (2, vI a)] [] N := by
    intro nn
    induction nn with
    | zero => intro a N hk0 hk1  hF hna hn; omega
    | succ nn ih =>
      intro a N hk0 hk1  hF hna hn
      have hBN := hB.Fq hF
      have e9 := hF 44 9 (by omega) (by omega) (by omega) (by omega)
      have he := hB.1.2
      refine a_iload_n (kX6_spareBy.at 38 rfl) 2 rfl ?_
      refine a_aload_n (kX6_spareBy.at 39 rfl) 0 rfl ?_
      refine a_getI (x := N 44 9) (kX6_spareBy.at 40 rfl) fg_X6_128 ii_44_9 (rfl) ?_
      refine a_icmpge (tgt := 131) (kX6_spareBy.at 41 rfl) (by decide) (fun h71 => ?_) (fun h71 => ?_)
      · obtain rfl : a = M 44 9 := by omega
        exact kk N hF hna
      · refine a_iload_n (kX6_spareBy.at 42 rfl) 2 rfl ?_
        refine a_iconst (kX6_spareBy.at 43 rfl) rfl ?_
        refine a_iadd (kX6_spareBy.at 44 rfl) (inr (by omega)) ?_
        refine a_istore_n (ls' := [(0, vR 44), (1, vI i), (2, vI a), (3, vI (a + 1))]) (kX6_spareBy.at 45 rfl) (by decide) rfl ?_
        refine l_spare2b G M i a hB h00 h1 (by omega) hna _ hF (by omega) ?_
        intro N1 hF1 hno
        show AW _ _ _ _ _ _ 125 [(0, vR 44), (1, vI i), (2, vI a), (3, vI (M 44 9))] [] N1
        refine a_iinc (ls' := [(0, vR 44), (1, vI i), (2, vI (a + 1)), (3, vI (M 44 9))]) (kX6_spareBy.at 73 rfl) 2 rfl (by decide) (inr (by omega)) rfl ?_
        refine a_goto (tgt := 66) (kX6_spareBy.at 74 rfl) (by decide) ?_
        refine AW.loc (ls' := [(0, vR 44), (1, vI i), (2, vI (a + 1))]) [0, 1, 2] rfl ?_
        exact ih ((a + 1)) (N1) (by omega) (by omega) (hF1) (fun c x y => if e : c = a then (by rw [e]; exact fst_none fun d u v => by simpa using hno d u v) else hna c x (by omega)) (by omega)
  exact key ((M 44 9) - (0) + 1 : Int).toNat (0) M0 (Int.le_refl _) hlohi  (hM0) (fun b x y => by omega) (by omega)
theorem c_spareBy (G : GT) (M : Mem) (i : Int) (hB : BI M) : AM G yX6_spareBy cX6_spareBy 4 (some .int) 6 M [vR 44, vI i] (pI fun r M' => r = spareS M i ∧ Fq M M') := by
  refine AM.mk (own := RX6) rfl sv_X6_spareBy.1.2.2.2.2.2 (Nat.le_of_ble_eq_true rfl) rfl ?_
  have he := hB.1.2
  refine a_aload_n (kX6_spareBy.at 0 rfl) 0 rfl ?_
  refine a_iconst (kX6_spareBy.at 1 rfl) rfl ?_
  refine AW.callV (as := [vI 0]) (st := []) (kX6_spareBy.at 2 rfl) ml_X6_255 sv_X6_isSpared (k := 44) (io_44) rfl rfl ⟨Nat.le_of_ble_eq_true rfl, Nat.le_of_ble_eq_true rfl⟩ ⟨Nat.le_refl _, Nat.le_refl _⟩ rfl rfl (Nat.le_of_ble_eq_true rfl) (c_isSpared G M 0 hB) (kI fun r N0 hr => ?_)
  obtain ⟨rfl, hF⟩ := hr
  refine a_ifeqB (tgt := 19) (kX6_spareBy.at 3 rfl) (by decide) (fun h5 => ?_) (fun h5 => ?_)
  · refine a_iconst (kX6_spareBy.at 11 rfl) rfl ?_
    refine a_istore_n (ls' := [(0, vR 44), (1, vI i), (2, vI 0)]) (kX6_spareBy.at 12 rfl) (by decide) rfl ?_
    refine l_spare1 G M i hB h5 _ hF (by omega) ?_
    intro N1 hF1 hno
    show AW _ _ _ _ _ _ 64 [(0, vR 44), (1, vI i), (2, vI (M 44 9))] [] N1
    have h1 : sp1 M = -1 := fst_none fun b x y => by simpa using hno b x y
    refine a_iconst (kX6_spareBy.at 36 rfl) rfl ?_
    refine a_istore_n (ls' := [(0, vR 44), (1, vI i), (2, vI 0)]) (kX6_spareBy.at 37 rfl) (by decide) rfl ?_
    refine l_spare2a G M i hB h5 h1 _ hF1 (by omega) ?_
    intro N2 hF2 hna
    show AW _ _ _ _ _ _ 131 [(0, vR 44), (1, vI i), (2, vI (M 44 9))] [] N2
    refine a_iconst (kX6_spareBy.at 75 rfl) rfl ?_
    exact a_iret (kX6_spareBy.at 76 rfl) (⟨by unfold spareS; first | (rw [if_pos h5]; first | rw [if_pos (by omega)] | rw [if_neg (by omega)]) | (rw [if_neg h5, if_neg (by rw [h1]; simp), if_neg (by rw [show sp2a M = -1 from fst_none fun b x y => by simpa using hna b x y]; simp)]), by first | exact hF | exact hF2⟩)
  · refine a_iload_n (kX6_spareBy.at 4 rfl) 1 rfl ?_
    refine a_iconst (kX6_spareBy.at 5 rfl) rfl ?_
    refine a_icmpne (tgt := 17) (kX6_spareBy.at 6 rfl) (by decide) (fun h10 => ?_) (fun h10 => ?_)
    · refine a_iconst (kX6_spareBy.at 9 rfl) rfl ?_
      exact a_iret (kX6_spareBy.at 10 rfl) (⟨by unfold spareS; first | (rw [if_pos h5]; first | rw [if_pos (by omega)] | rw [if_neg (by omega)]) | (rw [if_neg h5, if_neg (by rw [h1]; simp), if_neg (by rw [show sp2a M = -1 from fst_none fun b x y => by simpa using hna b x y]; simp)]), by first | exact hF | exact hF2⟩)
    · refine a_iconst (kX6_spareBy.at 7 rfl) rfl ?_
      refine a_goto (tgt := 18) (kX6_spareBy.at 8 rfl) (by decide) ?_
      exact a_iret (kX6_spareBy.at 10 rfl) (⟨by unfold spareS; first | (rw [if_pos h5]; first | rw [if_pos (by omega)] | rw [if_neg (by omega)]) | (rw [if_neg h5, if_neg (by rw [h1]; simp), if_neg (by rw [show sp2a M = -1 from fst_none fun b x y => by simpa using hna b x y]; simp)]), by first | exact hF | exact hF2⟩)
