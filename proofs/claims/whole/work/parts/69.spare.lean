/-! ===== the class: spare ===== -/
noncomputable def skF (m : Int → Int) (p : Int → Bool) : Int → Int → Int := fun a s => if s ≠ -1 then s else if p a = true then m a else -1
theorem sk_hit {m : Int → Int} {p : Int → Bool} {a s : Int} (hs : s = -1) (hp : p a = true) : m a = skF m p a s := by
  unfold skF
  rw [if_neg (by omega), if_pos hp]
theorem sk_miss {m : Int → Int} {p : Int → Bool} {a s : Int} (hs : s = -1) (hp : ¬ p a = true) : -1 = skF m p a s := by
  unfold skF
  rw [if_neg (by omega), if_neg hp]
theorem sk_stay {m : Int → Int} {p : Int → Bool} (k x : Int) (h : x ≠ -1) : skF m p k x = x := if_pos h
theorem forR_keep {f : Int → Int → Int} {lo e n a s : Int} (hst : ∀ k x, x ≠ -1 → f k x = x) (h1 : lo ≤ e) (h2 : e ≤ n) (hs : s = forR lo e f a) (hne : s ≠ -1) : s = forR lo n f a := by
  have key : ∀ d : Nat, s = forR lo (e + d) f a := by
    intro d
    induction d with
    | zero => rw [show e + ((0 : Nat) : Int) = e by omega]; exact hs
    | succ d ih => rw [show e + ((d + 1 : Nat) : Int) = e + d + 1 by omega, forR_succ (by omega), ← ih, hst _ _ hne]
  have z := key (n - e).toNat
  rw [show e + (((n - e).toNat : Nat) : Int) = n by omega] at z
  exact z
theorem forR_on {f : Int → Int → Int} {lo n s : Int} (hst : ∀ k x, x ≠ -1 → f k x = x) (hne : s ≠ -1) : forR lo n f s = s := by
  by_cases h : lo ≤ n
  · exact (forR_keep (f := f) (lo := lo) (e := lo) (n := n) (a := s) (s := s) hst (Int.le_refl _) h (forR_nil (Int.le_refl _)).symm hne).symm
  · rw [forR_nil (by omega)]
theorem sk_fst {m : Int → Int} {p : Int → Bool} {lo hi : Int} (h0 : 0 ≤ lo) (hm : ∀ a, lo ≤ a → a < hi → m a ≠ -1) : forR lo hi (skF m p) (-1) = if fstR lo hi p = -1 then -1 else m (fstR lo hi p) := by
  by_cases hl : lo ≤ hi
  · have key := forR_rel (lo := lo) (hi := hi) (f := skF m p) (g := fun a f => if f ≠ -1 then f else if p a = true then a else -1) (a := (-1 : Int)) (b := (-1 : Int)) (fun k x y => (x = -1 ∧ y = -1) ∨ (y ≠ -1 ∧ x = m y ∧ x ≠ -1)) hl (Or.inl ⟨rfl, rfl⟩) (fun k x y a b h => ?_)
    · have z : (forR lo hi (skF m p) (-1) = -1 ∧ fstR lo hi p = -1) ∨ (fstR lo hi p ≠ -1 ∧ forR lo hi (skF m p) (-1) = m (fstR lo hi p) ∧ forR lo hi (skF m p) (-1) ≠ -1) := key
      rcases z with z | z
      · rw [if_pos z.2, z.1]
      · rw [if_neg z.1, z.2.1]
    · show (skF m p k x = -1 ∧ (if y ≠ -1 then y else if p k = true then k else -1) = -1) ∨ ((if y ≠ -1 then y else if p k = true then k else -1) ≠ -1 ∧ skF m p k x = m (if y ≠ -1 then y else if p k = true then k else -1) ∧ skF m p k x ≠ -1)
      rcases h with h | h
      · by_cases hp : p k = true
        · rw [← sk_hit h.1 hp, if_neg (by omega), if_pos hp]
          exact Or.inr ⟨by omega, rfl, hm k a b⟩
        · rw [← sk_miss h.1 hp, if_neg (by omega), if_neg hp]
          exact Or.inl ⟨rfl, rfl⟩
      · rw [sk_stay k x h.2.2, if_pos h.1]
        exact Or.inr h
  · unfold fstR
    rw [forR_nil (by omega), forR_nil (by omega), if_pos rfl]
noncomputable def sk1 (R : Mem) : Int → Int → Int := skF (fun a => iShl 1 a) (fun a => decide (trG R (iShl 1 a) = 0))
noncomputable def sk2 (R : Mem) (a : Int) : Int → Int → Int := skF (fun b => iOr (iShl 1 a) (iShl 1 b)) (fun b => decide (trG R (iOr (iShl 1 a) (iShl 1 b)) = 0))
noncomputable def sk3 (R : Mem) (n : Int) : Int → Int → Int := fun a s => forR (a + 1) n (sk2 R a) s
set_option maxHeartbeats 4000000 in
set_option maxRecDepth 100000 in
theorem l_kspare1 (G : GT) (M K : Mem) (i s0 : Int) (P : Option AV → Mem → Prop) (hC : Cp M K) (h : MB K) (kk : ∀ (N : Mem) (e1 : Int), Fy M N → AW G RX5 cX5_spare 6 (some .int) (XM G 5 P) 71 [(0, vR 0), (1, vI i), (2, vI (forR 0 (K 44 9) (sk1 (reads K).1) s0)), (3, vI e1)] [] N) : AW G RX5 cX5_spare 6 (some .int) (XM G 5 P) 31 [(0, vR 0), (1, vI i), (2, vI s0), (3, vI 0)] [] M := by
  have h9 := h.1.2.2
  have key : ∀ (nn : Nat) (e s : Int) (N : Mem), 0 ≤ e → e ≤ K 44 9 → s = forR 0 e (sk1 (reads K).1) s0 → Fy M N → K 44 9 - e < nn → AW G RX5 cX5_spare 6 (some .int) (XM G 5 P) 31 [(0, vR 0), (1, vI i), (2, vI s), (3, vI e)] [] N := by
    intro nn
    induction nn with
    | zero => intro e s N a b c d f; omega
    | succ nn ih =>
      intro e s N hk0 hk1 hs hy hn
      have hCN := hC.y h hy
      have e9 := hCN.1.2.1.1
      have hsh : e < K 44 9 → 0 ≤ iShl 1 e ∧ iShl 1 e ≤ 255 := fun u => shl8 (by omega)
      refine a_iload_n (kX5_spare.at 18 rfl) 3 rfl ?_
      refine a_aload_n (kX5_spare.at 19 rfl) 0 rfl ?_
      refine a_getR (kX5_spare.at 20 rfl) fg_X5_19 ir_0_1 ?_
      refine a_getI (x := N 2 3) (kX5_spare.at 21 rfl) fg_X5_91 ii_2_3 (rfl) ?_
      refine a_icmpge (tgt := 71) (kX5_spare.at 22 rfl) (by decide) (fun h39 => ?_) (fun h39 => ?_)
      · have es : s = forR 0 (K 44 9) (sk1 (reads K).1) s0 := (if ee : e = K 44 9 then (by rw [← ee]; exact hs) else forR_keep (fun k x => sk_stay k x) hk0 hk1 hs (by omega))
        rw [es]
        exact kk N e hy
      · refine a_iload_n (kX5_spare.at 23 rfl) 2 rfl ?_
        refine a_iconst (kX5_spare.at 24 rfl) rfl ?_
        refine a_icmpne (tgt := 71) (kX5_spare.at 25 rfl) (by decide) (fun h44 => ?_) (fun h44 => ?_)
        · have es : s = forR 0 (K 44 9) (sk1 (reads K).1) s0 := (if ee : e = K 44 9 then (by rw [← ee]; exact hs) else forR_keep (fun k x => sk_stay k x) hk0 hk1 hs (by omega))
          rw [es]
          exact kk N e hy
        · refine a_aload_n (kX5_spare.at 26 rfl) 0 rfl ?_
          refine a_iconst (kX5_spare.at 27 rfl) rfl ?_
          refine a_iload_n (kX5_spare.at 28 rfl) 3 rfl ?_
          refine a_ishl (kX5_spare.at 29 rfl) ?_
          refine AW.callV (as := [vI (iShl 1 e)]) (st := []) (kX5_spare.at 30 rfl) ml_X5_178 sv_X5_endsWellWithout (k := 0) (io_0) rfl rfl ⟨Nat.le_of_ble_eq_true rfl, Nat.le_of_ble_eq_true rfl⟩ ⟨Nat.le_refl _, Nat.le_refl _⟩ rfl rfl (Nat.le_of_ble_eq_true rfl) (k_endsWell G N K _ hCN h (hsh (by omega))) (kI fun r N2 hr => ?_)
          obtain ⟨er, hy2⟩ := hr; rw [er]
          refine a_ifeqB (tgt := 63) (kX5_spare.at 31 rfl) (by decide) (fun h54 => ?_) (fun h54 => ?_)
          · refine a_iconst (kX5_spare.at 36 rfl) rfl ?_
            refine a_istore_n (ls' := [(0, vR 0), (1, vI i), (2, vI (-1)), (3, vI e)]) (kX5_spare.at 37 rfl) (by decide) rfl ?_
            refine a_iinc (ls' := [(0, vR 0), (1, vI i), (2, vI (-1)), (3, vI (e + 1))]) (kX5_spare.at 38 rfl) 3 rfl (by decide) (inr (by omega)) rfl ?_
            refine a_goto (tgt := 31) (kX5_spare.at 39 rfl) (by decide) ?_
            refine ih (e + 1) _ N2 (by omega) (by omega) ?_ (hy.trans hy2) (by omega)
            rw [forR_succ hk0, ← hs]
            first | exact sk_hit h44 (decide_eq_true h54) | exact sk_miss h44 (fun z => h54 (of_decide_eq_true z))
          · refine a_iconst (kX5_spare.at 32 rfl) rfl ?_
            refine a_iload_n (kX5_spare.at 33 rfl) 3 rfl ?_
            refine a_ishl (kX5_spare.at 34 rfl) ?_
            refine a_goto (tgt := 64) (kX5_spare.at 35 rfl) (by decide) ?_
            refine a_istore_n (ls' := [(0, vR 0), (1, vI i), (2, vI (iShl 1 e)), (3, vI e)]) (kX5_spare.at 37 rfl) (by decide) rfl ?_
            refine a_iinc (ls' := [(0, vR 0), (1, vI i), (2, vI (iShl 1 e)), (3, vI (e + 1))]) (kX5_spare.at 38 rfl) 3 rfl (by decide) (inr (by omega)) rfl ?_
            refine a_goto (tgt := 31) (kX5_spare.at 39 rfl) (by decide) ?_
            refine ih (e + 1) _ N2 (by omega) (by omega) ?_ (hy.trans hy2) (by omega)
            rw [forR_succ hk0, ← hs]
            first | exact sk_hit h44 (decide_eq_true h54) | exact sk_miss h44 (fun z => h54 (of_decide_eq_true z))
  exact key ((K 44 9) + 1).toNat 0 s0 M (Int.le_refl _) h9.1 (forR_nil (Int.le_refl _)).symm (Fy.refl M) (by omega)
theorem shl_or : ∀ a b : Fin 8, 0 ≤ iOr (iShl 1 (a.val : Int)) (iShl 1 (b.val : Int)) ∧ iOr (iShl 1 (a.val : Int)) (iShl 1 (b.val : Int)) ≤ 255 := by decide +kernel
theorem shl_or_at {a b : Int} (ha : 0 ≤ a ∧ a < 8) (hb : 0 ≤ b ∧ b < 8) : 0 ≤ iOr (iShl 1 a) (iShl 1 b) ∧ iOr (iShl 1 a) (iShl 1 b) ≤ 255 := by
  have z := shl_or ⟨a.toNat, by omega⟩ ⟨b.toNat, by omega⟩
  simp only [] at z
  rw [show ((a.toNat : Nat) : Int) = a by omega, show ((b.toNat : Nat) : Int) = b by omega] at z
  exact z
set_option maxHeartbeats 4000000 in
set_option maxRecDepth 100000 in
theorem l_kspare2 (G : GT) (M K N0 : Mem) (i s0 a : Int) (P : Option AV → Mem → Prop) (hC : Cp M K) (h : MB K) (hy0 : Fy M N0) (ha : 0 ≤ a ∧ a < K 44 9) (kk : ∀ (N : Mem) (e1 : Int), Fy M N → AW G RX5 cX5_spare 6 (some .int) (XM G 5 P) 138 [(0, vR 0), (1, vI i), (2, vI (forR (a + 1) (K 44 9) (sk2 (reads K).1 a) s0)), (3, vI a), (4, vI e1)] [] N) : AW G RX5 cX5_spare 6 (some .int) (XM G 5 P) 89 [(0, vR 0), (1, vI i), (2, vI s0), (3, vI a), (4, vI (a + 1))] [] N0 := by
  have h9 := h.1.2.2
  have key : ∀ (nn : Nat) (e s : Int) (N : Mem), a + 1 ≤ e → e ≤ K 44 9 → s = forR (a + 1) e (sk2 (reads K).1 a) s0 → Fy M N → K 44 9 - e < nn → AW G RX5 cX5_spare 6 (some .int) (XM G 5 P) 89 [(0, vR 0), (1, vI i), (2, vI s), (3, vI a), (4, vI e)] [] N := by
    intro nn
    induction nn with
    | zero => intro e s N a b c d f; omega
    | succ nn ih =>
      intro e s N hk0 hk1 hs hy hn
      have hCN := hC.y h hy
      have e9 := hCN.1.2.1.1
      have hsh : e < K 44 9 → 0 ≤ iOr (iShl 1 a) (iShl 1 e) ∧ iOr (iShl 1 a) (iShl 1 e) ≤ 255 := fun u => shl_or_at (by omega) (by omega)
      refine a_iload (kX5_spare.at 51 rfl) 4 rfl ?_
      refine a_aload_n (kX5_spare.at 52 rfl) 0 rfl ?_
      refine a_getR (kX5_spare.at 53 rfl) fg_X5_19 ir_0_1 ?_
      refine a_getI (x := N 2 3) (kX5_spare.at 54 rfl) fg_X5_91 ii_2_3 (rfl) ?_
      refine a_icmpge (tgt := 138) (kX5_spare.at 55 rfl) (by decide) (fun h98 => ?_) (fun h98 => ?_)
      · have es : s = forR (a + 1) (K 44 9) (sk2 (reads K).1 a) s0 := (if ee : e = K 44 9 then (by rw [← ee]; exact hs) else forR_keep (fun k x => sk_stay k x) hk0 hk1 hs (by omega))
        rw [es]
        exact kk N e hy
      · refine a_iload_n (kX5_spare.at 56 rfl) 2 rfl ?_
        refine a_iconst (kX5_spare.at 57 rfl) rfl ?_
        refine a_icmpne (tgt := 138) (kX5_spare.at 58 rfl) (by decide) (fun h103 => ?_) (fun h103 => ?_)
        · have es : s = forR (a + 1) (K 44 9) (sk2 (reads K).1 a) s0 := (if ee : e = K 44 9 then (by rw [← ee]; exact hs) else forR_keep (fun k x => sk_stay k x) hk0 hk1 hs (by omega))
          rw [es]
          exact kk N e hy
        · refine a_iconst (kX5_spare.at 59 rfl) rfl ?_
          refine a_iload_n (kX5_spare.at 60 rfl) 3 rfl ?_
          refine a_ishl (kX5_spare.at 61 rfl) ?_
          refine a_iconst (kX5_spare.at 62 rfl) rfl ?_
          refine a_iload (kX5_spare.at 63 rfl) 4 rfl ?_
          refine a_ishl (kX5_spare.at 64 rfl) ?_
          refine a_ior (kX5_spare.at 65 rfl) ?_
          refine a_istore (ls' := [(0, vR 0), (1, vI i), (2, vI s), (3, vI a), (4, vI e), (5, vI (iOr (iShl 1 a) (iShl 1 e)))]) (kX5_spare.at 66 rfl) (by decide) rfl ?_
          refine a_aload_n (kX5_spare.at 67 rfl) 0 rfl ?_
          refine a_iload (kX5_spare.at 68 rfl) 5 rfl ?_
          refine AW.callV (as := [vI (iOr (iShl 1 a) (iShl 1 e))]) (st := []) (kX5_spare.at 69 rfl) ml_X5_178 sv_X5_endsWellWithout (k := 0) (io_0) rfl rfl ⟨Nat.le_of_ble_eq_true rfl, Nat.le_of_ble_eq_true rfl⟩ ⟨Nat.le_refl _, Nat.le_refl _⟩ rfl rfl (Nat.le_of_ble_eq_true rfl) (k_endsWell G N K _ hCN h (hsh (by omega))) (kI fun r N2 hr => ?_)
          obtain ⟨er, hy2⟩ := hr; rw [er]
          refine a_ifeqB (tgt := 130) (kX5_spare.at 70 rfl) (by decide) (fun h122 => ?_) (fun h122 => ?_)
          · refine a_iconst (kX5_spare.at 73 rfl) rfl ?_
            refine a_istore_n (ls' := [(0, vR 0), (1, vI i), (2, vI (-1)), (3, vI a), (4, vI e), (5, vI (iOr (iShl 1 a) (iShl 1 e)))]) (kX5_spare.at 74 rfl) (by decide) rfl ?_
            refine a_iinc (ls' := [(0, vR 0), (1, vI i), (2, vI (-1)), (3, vI a), (4, vI (e + 1)), (5, vI (iOr (iShl 1 a) (iShl 1 e)))]) (kX5_spare.at 75 rfl) 4 rfl (by decide) (inr (by omega)) rfl ?_
            refine a_goto (tgt := 89) (kX5_spare.at 76 rfl) (by decide) ?_
            refine AW.loc (ls' := [(0, vR 0), (1, vI i), (2, vI (-1)), (3, vI a), (4, vI (e + 1))]) [0, 1, 2, 3, 4] rfl ?_
            refine ih (e + 1) _ N2 (by omega) (by omega) ?_ (hy.trans hy2) (by omega)
            rw [forR_succ hk0, ← hs]
            first | exact sk_hit (m := fun b => iOr (iShl 1 a) (iShl 1 b)) (p := fun b => decide (trG (reads K).1 (iOr (iShl 1 a) (iShl 1 b)) = 0)) (a := e) h103 (decide_eq_true h122) | exact sk_miss h103 (fun z => h122 (of_decide_eq_true z))
          · refine a_iload (kX5_spare.at 71 rfl) 5 rfl ?_
            refine a_goto (tgt := 131) (kX5_spare.at 72 rfl) (by decide) ?_
            refine a_istore_n (ls' := [(0, vR 0), (1, vI i), (2, vI (iOr (iShl 1 a) (iShl 1 e))), (3, vI a), (4, vI e), (5, vI (iOr (iShl 1 a) (iShl 1 e)))]) (kX5_spare.at 74 rfl) (by decide) rfl ?_
            refine a_iinc (ls' := [(0, vR 0), (1, vI i), (2, vI (iOr (iShl 1 a) (iShl 1 e))), (3, vI a), (4, vI (e + 1)), (5, vI (iOr (iShl 1 a) (iShl 1 e)))]) (kX5_spare.at 75 rfl) 4 rfl (by decide) (inr (by omega)) rfl ?_
            refine a_goto (tgt := 89) (kX5_spare.at 76 rfl) (by decide) ?_
            refine AW.loc (ls' := [(0, vR 0), (1, vI i), (2, vI (iOr (iShl 1 a) (iShl 1 e))), (3, vI a), (4, vI (e + 1))]) [0, 1, 2, 3, 4] rfl ?_
            refine ih (e + 1) _ N2 (by omega) (by omega) ?_ (hy.trans hy2) (by omega)
            rw [forR_succ hk0, ← hs]
            first | exact sk_hit (m := fun b => iOr (iShl 1 a) (iShl 1 b)) (p := fun b => decide (trG (reads K).1 (iOr (iShl 1 a) (iShl 1 b)) = 0)) (a := e) h103 (decide_eq_true h122) | exact sk_miss h103 (fun z => h122 (of_decide_eq_true z))
  exact key ((K 44 9) + 1).toNat (a + 1) s0 N0 (Int.le_refl _) (by omega) (forR_nil (Int.le_refl _)).symm hy0 (by omega)
set_option maxHeartbeats 4000000 in
set_option maxRecDepth 100000 in
theorem l_kspare3 (G : GT) (M K N0 : Mem) (i s0 : Int) (P : Option AV → Mem → Prop) (hC : Cp M K) (h : MB K) (hy0 : Fy M N0) (hlohi : (0 : Int) ≤ (K 44 9)) (kk : ∀ (N : Mem), (Fy M N) → AW G RX5 cX5_spare 6 (some .int) (XM G 5 P) 144 [(0, vR 0), (1, vI i), (2, vI (forR 0 (K 44 9) (sk3 (reads K).1 (K 44 9)) s0)), (3, vI (K 44 9))] [] N) : AW G RX5 cX5_spare 6 (some .int) (XM G 5 P) 73 [(0, vR 0), (1, vI i), (2, vI s0), (3, vI 0)] [] N0 := by
  have key : ∀ (nn : Nat) (a : Int) (s : Int) (N : Mem), (0 : Int) ≤ a → a ≤ (K 44 9) → s = forR 0 a (sk3 (reads K).1 (K 44 9)) s0 → (Fy M N) → (K 44 9) - a < nn → AW G RX5 cX5_spare 6 (some .int) (XM G 5 P) 73 [(0, vR 0), (1, vI i), (2, vI s), (3, vI a)] [] N := by
    intro nn
    induction nn with
    | zero => intro a s N hk0 hk1 e_s hy hn; omega
    | succ nn ih =>
      intro a s N hk0 hk1 e_s hy hn
      have hCN := hC.y h hy
      have e9 := hCN.1.2.1.1
      have h9 := h.1.2.2
      refine a_iload_n (kX5_spare.at 42 rfl) 3 rfl ?_
      refine a_aload_n (kX5_spare.at 43 rfl) 0 rfl ?_
      refine a_getR (kX5_spare.at 44 rfl) fg_X5_19 ir_0_1 ?_
      refine a_getI (x := N 2 3) (kX5_spare.at 45 rfl) fg_X5_91 ii_2_3 (rfl) ?_
      refine a_icmpge (tgt := 144) (kX5_spare.at 46 rfl) (by decide) (fun h81 => ?_) (fun h81 => ?_)
      · subst e_s
        obtain rfl : a = K 44 9 := by omega
        exact kk N hy
      · refine a_iload_n (kX5_spare.at 47 rfl) 3 rfl ?_
        refine a_iconst (kX5_spare.at 48 rfl) rfl ?_
        refine a_iadd (kX5_spare.at 49 rfl) (inr (by omega)) ?_
        refine a_istore (ls' := [(0, vR 0), (1, vI i), (2, vI s), (3, vI a), (4, vI (a + 1))]) (kX5_spare.at 50 rfl) (by decide) rfl ?_
        refine l_kspare2 G M K N i s a _ hC h hy (by omega) ?_
        intro N1 e1 hy1
        show AW _ _ _ _ _ _ 138 [(0, vR 0), (1, vI i), (2, vI (forR (a + 1) (K 44 9) (sk2 (reads K).1 a) s)), (3, vI a), (4, vI e1)] [] N1
        refine a_iinc (ls' := [(0, vR 0), (1, vI i), (2, vI (forR (a + 1) (K 44 9) (sk2 (reads K).1 a) s)), (3, vI (a + 1)), (4, vI e1)]) (kX5_spare.at 77 rfl) 3 rfl (by decide) (inr (by omega)) rfl ?_
        refine a_goto (tgt := 73) (kX5_spare.at 78 rfl) (by decide) ?_
        refine AW.loc (ls' := [(0, vR 0), (1, vI i), (2, vI (forR (a + 1) (K 44 9) (sk2 (reads K).1 a) s)), (3, vI (a + 1))]) [0, 1, 2, 3] rfl ?_
        exact ih ((a + 1)) ((forR (a + 1) (K 44 9) (sk2 (reads K).1 a) s)) (N1) (by omega) (by omega) (by rw [forR_succ hk0, ← e_s] <;> (clear ih kk e_s; rfl)) (hy1) (by omega)
  exact key ((K 44 9) - (0) + 1 : Int).toNat (0) s0 N0 (Int.le_refl _) hlohi (forR_nil (Int.le_refl _)).symm (hy0) (by omega)
/-- the place of a bit -/
def pobR (b i : Int) : Nat → Int → Int → Int
  | 0, _, _ => -1
  | n + 1, p, ah => if isIn b p = true then (if ah = i then p else pobR b i n (p + 1) (ah + 1)) else pobR b i n (p + 1) ah
theorem pobR_s (b i : Int) (n : Nat) (p ah : Int) : pobR b i (n + 1) p ah = if isIn b p = true then (if ah = i then p else pobR b i n (p + 1) (ah + 1)) else pobR b i n (p + 1) ah := rfl
theorem pobR_0 (b i p ah : Int) : pobR b i 0 p ah = -1 := rfl
set_option maxHeartbeats 4000000 in
set_option maxRecDepth 100000 in
theorem l_kplace (G : GT) (M : Mem) (b i z : Int) (hb : 0 ≤ b ∧ b ≤ 255) : ∀ (n : Nat) (p ah : Int), p + n = 8 → 0 ≤ p → (0 ≤ ah ∧ ah ≤ p) → pobR b i n p ah = z → AW G RX5 cX5_placeOfBit 4 (some .int) (XM G 1 (qI z M)) 4 [(0, vI b), (1, vI i), (2, vI ah), (3, vI p)] [] M := by
  intro n
  induction n with
  | zero =>
    intro p ah h1 h2 h3 hz
    rw [pobR_0] at hz
    refine a_iload_n (kX5_placeOfBit.at 4 rfl) 3 rfl ?_
    refine a_bipush (kX5_placeOfBit.at 5 rfl) rfl rfl ?_
    refine a_icmpge (tgt := 34) (kX5_placeOfBit.at 6 rfl) (by decide) (fun h7 => ?_) (fun h7 => ?_)
    · refine a_iconst (kX5_placeOfBit.at 19 rfl) rfl ?_
      exact a_iretE (kX5_placeOfBit.at 20 rfl) (⟨hz, rfl⟩)
    · exfalso; omega
  | succ n ih =>
    intro p ah h1 h2 h3 hz
    rw [pobR_s] at hz
    refine a_iload_n (kX5_placeOfBit.at 4 rfl) 3 rfl ?_
    refine a_bipush (kX5_placeOfBit.at 5 rfl) rfl rfl ?_
    refine a_icmpge (tgt := 34) (kX5_placeOfBit.at 6 rfl) (by decide) (fun h7 => ?_) (fun h7 => ?_)
    · exfalso; omega
    · refine a_iload_n (kX5_placeOfBit.at 7 rfl) 0 rfl ?_
      refine a_iload_n (kX5_placeOfBit.at 8 rfl) 3 rfl ?_
      refine AW.callS (as := [vI b, vI p]) (st := []) (kX5_placeOfBit.at 9 rfl) ml_X5_215 ss_X5_hasBit ⟨Nat.le_of_ble_eq_true rfl, Nat.le_of_ble_eq_true rfl⟩ ⟨Nat.le_refl _, Nat.le_refl _⟩ rfl rfl (Nat.le_of_ble_eq_true rfl) (k_hasBit G M b p (by omega) (by omega)) (kIE ?_)
      refine a_ifeqB (tgt := 28) (kX5_placeOfBit.at 10 rfl) (by decide) (fun h15 => ?_) (fun h15 => ?_)
      · refine a_iinc (ls' := [(0, vI b), (1, vI i), (2, vI ah), (3, vI (p + 1))]) (kX5_placeOfBit.at 17 rfl) 3 rfl (by decide) (inr (by omega)) rfl ?_
        refine a_goto (tgt := 4) (kX5_placeOfBit.at 18 rfl) (by decide) ?_
        refine ih _ _ (by omega) (by omega) (by omega) ?_
        first | (rw [if_neg h15] at hz; exact hz) | (rw [if_pos h15, if_neg h20] at hz; exact hz)
      · refine a_iload_n (kX5_placeOfBit.at 11 rfl) 2 rfl ?_
        refine a_iload_n (kX5_placeOfBit.at 12 rfl) 1 rfl ?_
        refine a_icmpne (tgt := 25) (kX5_placeOfBit.at 13 rfl) (by decide) (fun h20 => ?_) (fun h20 => ?_)
        · refine a_iinc (ls' := [(0, vI b), (1, vI i), (2, vI (ah + 1)), (3, vI p)]) (kX5_placeOfBit.at 16 rfl) 2 rfl (by decide) (inr (by omega)) rfl ?_
          refine a_iinc (ls' := [(0, vI b), (1, vI i), (2, vI (ah + 1)), (3, vI (p + 1))]) (kX5_placeOfBit.at 17 rfl) 3 rfl (by decide) (inr (by omega)) rfl ?_
          refine a_goto (tgt := 4) (kX5_placeOfBit.at 18 rfl) (by decide) ?_
          refine ih _ _ (by omega) (by omega) (by omega) ?_
          first | (rw [if_neg h15] at hz; exact hz) | (rw [if_pos h15, if_neg h20] at hz; exact hz)
        · refine a_iload_n (kX5_placeOfBit.at 14 rfl) 3 rfl ?_
          exact a_iretE (kX5_placeOfBit.at 15 rfl) (by rw [if_pos h15, if_pos h20] at hz; exact ⟨hz, rfl⟩)
theorem k_placeOfBit (G : GT) (M : Mem) (b i : Int) (hb : 0 ≤ b ∧ b ≤ 255) : AM G yX5_placeOfBit cX5_placeOfBit 4 (some .int) 1 M [vI b, vI i] (qI (pobR b i 8 0 0) M) := by
  refine AM.mk (own := RX5) rfl ss_X5_placeOfBit.1.2.2.2.2.2 (Nat.le_of_ble_eq_true rfl) rfl ?_
  refine a_iconst (kX5_placeOfBit.at 0 rfl) rfl ?_
  refine a_istore_n (ls' := [(0, vI b), (1, vI i), (2, vI 0)]) (kX5_placeOfBit.at 1 rfl) (by decide) rfl ?_
  refine a_iconst (kX5_placeOfBit.at 2 rfl) rfl ?_
  refine a_istore_n (ls' := [(0, vI b), (1, vI i), (2, vI 0), (3, vI 0)]) (kX5_placeOfBit.at 3 rfl) (by decide) rfl ?_
  exact l_kplace G M b i _ hb 8 0 0 (by omega) (by omega) (by omega) rfl
theorem pob_1 : ∀ a : Fin 8, pobR (iShl 1 (a.val : Int)) 0 8 0 0 = (a.val : Int) ∧ pobR (iShl 1 (a.val : Int)) 1 8 0 0 = -1 ∧ popc (iShl 1 (a.val : Int)) = 1 := by decide +kernel
theorem pob_2 : ∀ a b : Fin 8, a < b → pobR (iOr (iShl 1 (a.val : Int)) (iShl 1 (b.val : Int))) 0 8 0 0 = (a.val : Int) ∧ pobR (iOr (iShl 1 (a.val : Int)) (iShl 1 (b.val : Int))) 1 8 0 0 = (b.val : Int) ∧ popc (iOr (iShl 1 (a.val : Int)) (iShl 1 (b.val : Int))) = 2 := by decide +kernel
theorem pob_0 : pobR 0 0 8 0 0 = -1 ∧ pobR 0 1 8 0 0 = -1 ∧ popc 0 = 0 := by decide +kernel
theorem or_minA : ∀ a : Fin 256, iOr (a.val : Int) (-2147483648) ≠ -1 := by decide +kernel
theorem or_min {a : Int} (h : 0 ≤ a ∧ a ≤ 255) : iOr a (-2147483648) ≠ -1 := by
  have z := or_minA ⟨a.toNat, by omega⟩
  simp only [] at z
  rw [show ((a.toNat : Nat) : Int) = a by omega] at z
  exact z
/-- what spare answers of the bits that it found -/
noncomputable def spA (s i : Int) : Int := if s = -1 then -1 else if i = -1 then popc s else pobR s i 8 0 0
noncomputable def spB (R : Mem) : Int := forR 0 (R 44 9) (sk3 R (R 44 9)) (forR 0 (R 44 9) (sk1 R) (if trG R 0 = 0 then 0 else -1))
theorem sk3_stay (R : Mem) (n k x : Int) (h : x ≠ -1) : sk3 R n k x = x := forR_on (fun k x => sk_stay k x) h
theorem spare_eq {R : Mem} {i : Int} (h9 : 0 ≤ R 44 9 ∧ R 44 9 ≤ 8) (hi : -1 ≤ i ∧ i ≤ 1) : (spB R = -1 ∨ (0 ≤ spB R ∧ spB R ≤ 255)) ∧ spA (spB R) i = spareS R i := by
  unfold spB spareS
  have hi3 : i = -1 ∨ i = 0 ∨ i = 1 := by omega
  by_cases h0 : trG R 0 = 0
  · rw [if_pos h0, if_pos h0, forR_on (f := sk1 R) (fun k x => sk_stay k x) (by omega), forR_on (f := sk3 R (R 44 9)) (sk3_stay R _) (by omega)]
    refine ⟨Or.inr (by omega), ?_⟩
    unfold spA
    rw [if_neg (by omega)]
    rcases hi3 with rfl | rfl | rfl
    · rw [if_pos rfl, if_pos rfl]; exact pob_0.2.2
    · rw [if_neg (by omega), if_neg (by omega)]; exact pob_0.1
    · rw [if_neg (by omega), if_neg (by omega)]; exact pob_0.2.1
  · rw [if_neg h0, if_neg h0]
    have e1 : forR 0 (R 44 9) (sk1 R) (-1) = if sp1 R = -1 then -1 else iShl 1 (sp1 R) := sk_fst (Int.le_refl _) (fun a b c => by have := shl8 (e := a) (by omega); omega)
    rw [e1]
    by_cases h1 : sp1 R = -1
    · rw [if_pos h1, if_neg (fun z => z h1)]
      have c2 : ∀ a, 0 ≤ a → a < R 44 9 → forR (a + 1) (R 44 9) (sk2 R a) (-1) = if sp2b R a = -1 then -1 else iOr (iShl 1 a) (iShl 1 (sp2b R a)) := fun a b c => sk_fst (by omega) (fun d e f => by have := shl_or_at (a := a) (b := d) (by omega) (by omega); omega)
      have s2 : ∀ a, 0 ≤ a → (sp2b R a = -1) ∨ (a + 1 ≤ sp2b R a ∧ sp2b R a < R 44 9) := fun a b => (fst_spec (lo := a + 1) (hi := R 44 9) (p := fun b => decide (trG R (iOr (iShl 1 a) (iShl 1 b)) = 0)) (by omega)).imp (fun z => z.1) (fun z => ⟨z.1, z.2.1⟩)
      have e2 : forR 0 (R 44 9) (sk3 R (R 44 9)) (-1) = forR 0 (R 44 9) (skF (fun a => iOr (iShl 1 a) (iShl 1 (sp2b R a))) (fun a => decide (sp2b R a ≠ -1))) (-1) := forR_cong fun a s b c => by
        by_cases hs : s = -1
        · subst hs
          show forR (a + 1) (R 44 9) (sk2 R a) (-1) = _
          rw [c2 a b c]
          by_cases h2 : sp2b R a = -1
          · rw [if_pos h2]; exact sk_miss rfl (fun z => (of_decide_eq_true z) h2)
          · rw [if_neg h2]; exact sk_hit (m := fun a => iOr (iShl 1 a) (iShl 1 (sp2b R a))) rfl (decide_eq_true h2)
        · rw [sk3_stay R _ a s hs, sk_stay a s hs]
      have e3 : forR 0 (R 44 9) (skF (fun a => iOr (iShl 1 a) (iShl 1 (sp2b R a))) (fun a => decide (sp2b R a ≠ -1))) (-1) = if sp2a R = -1 then -1 else iOr (iShl 1 (sp2a R)) (iShl 1 (sp2b R (sp2a R))) := sk_fst (m := fun a => iOr (iShl 1 a) (iShl 1 (sp2b R a))) (Int.le_refl _) (fun a b c => by
        have z := s2 a b
        show iOr (iShl 1 a) (iShl 1 (sp2b R a)) ≠ -1
        rcases z with z | z
        · rw [z, show iShl 1 (-1) = -2147483648 by decide +kernel]
          exact or_min (shl8 (by omega))
        · have := shl_or_at (a := a) (b := sp2b R a) (by omega) (by omega); omega)
      rw [e2, e3]
      rcases fst_spec (lo := 0) (hi := R 44 9) (p := fun a => decide (sp2b R a ≠ -1)) (Int.le_refl _) with z | ⟨z1, z2, z3, -⟩
      · have z0 : sp2a R = -1 := z.1
        rw [if_pos z0, if_neg (fun y => y z0)]
        exact ⟨Or.inl rfl, if_pos rfl⟩
      · have z1 : 0 ≤ sp2a R := z1
        have z2 : sp2a R < R 44 9 := z2
        have z3 : sp2b R (sp2a R) ≠ -1 := of_decide_eq_true z3
        have z4 := (s2 (sp2a R) z1).resolve_left z3
        have y := pob_2 ⟨(sp2a R).toNat, by omega⟩ ⟨(sp2b R (sp2a R)).toNat, by omega⟩ (by show (sp2a R).toNat < (sp2b R (sp2a R)).toNat; omega)
        simp only [] at y
        rw [show (((sp2a R).toNat : Nat) : Int) = sp2a R by omega, show (((sp2b R (sp2a R)).toNat : Nat) : Int) = sp2b R (sp2a R) by omega] at y
        have x := shl_or_at (a := sp2a R) (b := sp2b R (sp2a R)) (by omega) (by omega)
        rw [if_neg (by omega), if_pos (show sp2a R ≠ -1 by omega)]
        refine ⟨Or.inr x, ?_⟩
        unfold spA
        rw [if_neg (by omega)]
        rcases hi3 with rfl | rfl | rfl
        · rw [if_pos rfl, if_pos rfl]; exact y.2.2
        · rw [if_neg (by omega), if_neg (by omega), if_pos rfl]; exact y.1
        · rw [if_neg (by omega), if_neg (by omega), if_neg (by omega)]; exact y.2.1
    · rcases fst_spec (lo := 0) (hi := R 44 9) (p := fun a => decide (trG R (iShl 1 a) = 0)) (Int.le_refl _) with z | ⟨z1, z2, -, -⟩
      · exact absurd z.1 h1
      · have z1 : 0 ≤ sp1 R := z1
        have z2 : sp1 R < R 44 9 := z2
        have y := pob_1 ⟨(sp1 R).toNat, by omega⟩
        simp only [] at y
        rw [show (((sp1 R).toNat : Nat) : Int) = sp1 R by omega] at y
        have x := shl8 (e := sp1 R) (by omega)
        rw [if_neg h1, if_pos h1, forR_on (f := sk3 R (R 44 9)) (sk3_stay R _) (by omega)]
        refine ⟨Or.inr x, ?_⟩
        unfold spA
        rw [if_neg (by omega)]
        rcases hi3 with rfl | rfl | rfl
        · rw [if_pos rfl, if_pos rfl]; exact y.2.2
        · rw [if_neg (by omega), if_neg (by omega), if_pos rfl]; exact y.1
        · rw [if_neg (by omega), if_neg (by omega), if_neg (by omega)]; exact y.2.1
theorem k_spare (G : GT) (M K : Mem) (i : Int) (hC : Cp M K) (h : MB K) : AM G yX5_spare cX5_spare 6 (some .int) 5 M [vR 0, vI i] (pI fun r N => r = o_spare K i ∧ Fy M N) := by
  refine AM.mk (own := RX5) rfl sv_X5_spare.1.2.2.2.2.2 (Nat.le_of_ble_eq_true rfl) rfl ?_
  have hI := CI_of hC h
  have h9 := h.1.2.2
  have e9 := reads_9 h
  have e24 : M 4 10 = trG (reads K).1 0 := by
    unfold trG
    rw [reads_g0 h]
    exact hC.2.2.2.1.1.2.2.2.1.2.1
  have hs : -1 ≤ i ∧ i ≤ 1 → (spB (reads K).1 = -1 ∨ (0 ≤ spB (reads K).1 ∧ spB (reads K).1 ≤ 255)) ∧ spA (spB (reads K).1) i = o_spare K i := fun u => by
    have z := spare_eq (R := (reads K).1) (i := i) (by rw [e9]; exact h9) u
    refine ⟨z.1, z.2.trans ?_⟩
    unfold o_spare
    rw [if_pos u, spareS_E (rf_InE K) (reads_BI h).1]
  have eB : forR 0 (K 44 9) (sk3 (reads K).1 (K 44 9)) (forR 0 (K 44 9) (sk1 (reads K).1) (if trG (reads K).1 0 = 0 then 0 else -1)) = spB (reads K).1 := by
    unfold spB
    rw [e9]
  refine a_iload_n (kX5_spare.at 0 rfl) 1 rfl ?_
  refine a_iconst (kX5_spare.at 1 rfl) rfl ?_
  refine a_icmplt (tgt := 10) (kX5_spare.at 2 rfl) (by decide) (fun h2 => ?_) (fun h2 => ?_)
  · refine a_bipush (kX5_spare.at 6 rfl) rfl rfl ?_
    exact a_iret (kX5_spare.at 7 rfl) (⟨by first | (rw [← (hs).2]; unfold spA; first | exact (if_pos (by omega)).symm | (rw [if_neg (by omega)]; first | exact (if_pos (by omega)).symm | exact (if_neg (by omega)).symm)) | (unfold o_spare; exact (if_neg (by omega)).symm), by first | exact hy2 | exact Fy.refl M⟩)
  · refine a_iload_n (kX5_spare.at 3 rfl) 1 rfl ?_
    refine a_iconst (kX5_spare.at 4 rfl) rfl ?_
    refine a_icmple (tgt := 13) (kX5_spare.at 5 rfl) (by decide) (fun h7 => ?_) (fun h7 => ?_)
    · refine a_aload_n (kX5_spare.at 8 rfl) 0 rfl ?_
      refine a_getR (kX5_spare.at 9 rfl) fg_X5_29 ir_0_3 ?_
      refine a_getI (x := M 4 10) (kX5_spare.at 10 rfl) fg_X5_136 ii_4_10 (rfl) ?_
      refine a_ifne (tgt := 27) (kX5_spare.at 11 rfl) (by decide) (fun h20 => ?_) (fun h20 => ?_)
      · rw [if_neg (by omega)] at eB
        refine a_iconst (kX5_spare.at 14 rfl) rfl ?_
        refine a_istore_n (ls' := [(0, vR 0), (1, vI i), (2, vI (-1))]) (kX5_spare.at 15 rfl) (by decide) rfl ?_
        refine a_iconst (kX5_spare.at 16 rfl) rfl ?_
        refine a_istore_n (ls' := [(0, vR 0), (1, vI i), (2, vI (-1)), (3, vI 0)]) (kX5_spare.at 17 rfl) (by decide) rfl ?_
        refine l_kspare1 G M K i (-1) _ hC h ?_
        intro N1 e1 hy1
        show AW _ _ _ _ _ _ 71 [(0, vR 0), (1, vI i), (2, vI (forR 0 (K 44 9) (sk1 (reads K).1) (-1))), (3, vI e1)] [] N1
        refine a_iconst (kX5_spare.at 40 rfl) rfl ?_
        refine a_istore_n (ls' := [(0, vR 0), (1, vI i), (2, vI (forR 0 (K 44 9) (sk1 (reads K).1) (-1))), (3, vI 0)]) (kX5_spare.at 41 rfl) (by decide) rfl ?_
        refine l_kspare3 G M K N1 i _ _ hC h hy1 h9.1 ?_
        intro N2 hy2; rw [eB]
        show AW _ _ _ _ _ _ 144 [(0, vR 0), (1, vI i), (2, vI (spB (reads K).1)), (3, vI (K 44 9))] [] N2
        have hs := hs (by omega)
        refine a_iload_n (kX5_spare.at 79 rfl) 2 rfl ?_
        refine a_iconst (kX5_spare.at 80 rfl) rfl ?_
        refine a_icmpne (tgt := 151) (kX5_spare.at 81 rfl) (by decide) (fun h146 => ?_) (fun h146 => ?_)
        · refine a_iload_n (kX5_spare.at 84 rfl) 1 rfl ?_
          refine a_iconst (kX5_spare.at 85 rfl) rfl ?_
          refine a_icmpne (tgt := 163) (kX5_spare.at 86 rfl) (by decide) (fun h153 => ?_) (fun h153 => ?_)
          · refine a_iload_n (kX5_spare.at 90 rfl) 2 rfl ?_
            refine a_iload_n (kX5_spare.at 91 rfl) 1 rfl ?_
            refine AW.callS (as := [vI (spB (reads K).1), vI i]) (st := []) (kX5_spare.at 92 rfl) ml_X5_186 ss_X5_placeOfBit ⟨Nat.le_of_ble_eq_true rfl, Nat.le_of_ble_eq_true rfl⟩ ⟨Nat.le_refl _, Nat.le_refl _⟩ rfl rfl (Nat.le_of_ble_eq_true rfl) (k_placeOfBit G N2 (spB (reads K).1) i (by omega)) (kIE ?_)
            exact a_iret (kX5_spare.at 93 rfl) (⟨by first | (rw [← (hs).2]; unfold spA; first | exact (if_pos (by omega)).symm | (rw [if_neg (by omega)]; first | exact (if_pos (by omega)).symm | exact (if_neg (by omega)).symm)) | (unfold o_spare; exact (if_neg (by omega)).symm), by first | exact hy2 | exact Fy.refl M⟩)
          · refine a_iload_n (kX5_spare.at 87 rfl) 2 rfl ?_
            refine AW.callS (as := [vI (spB (reads K).1)]) (st := []) (kX5_spare.at 88 rfl) ml_X5_181 ss_J6_bitCount_0f7a4 ⟨Nat.le_of_ble_eq_true rfl, Nat.le_of_ble_eq_true rfl⟩ ⟨Nat.le_refl _, Nat.le_refl _⟩ rfl rfl (Nat.le_of_ble_eq_true rfl) (k_bitCount G N2 (spB (reads K).1) (by omega)) (kIE ?_)
            refine a_goto (tgt := 168) (kX5_spare.at 89 rfl) (by decide) ?_
            exact a_iret (kX5_spare.at 93 rfl) (⟨by first | (rw [← (hs).2]; unfold spA; first | exact (if_pos (by omega)).symm | (rw [if_neg (by omega)]; first | exact (if_pos (by omega)).symm | exact (if_neg (by omega)).symm)) | (unfold o_spare; exact (if_neg (by omega)).symm), by first | exact hy2 | exact Fy.refl M⟩)
        · refine a_iconst (kX5_spare.at 82 rfl) rfl ?_
          exact a_iret (kX5_spare.at 83 rfl) (⟨by first | (rw [← (hs).2]; unfold spA; first | exact (if_pos (by omega)).symm | (rw [if_neg (by omega)]; first | exact (if_pos (by omega)).symm | exact (if_neg (by omega)).symm)) | (unfold o_spare; exact (if_neg (by omega)).symm), by first | exact hy2 | exact Fy.refl M⟩)
      · rw [if_pos (by omega)] at eB
        refine a_iconst (kX5_spare.at 12 rfl) rfl ?_
        refine a_goto (tgt := 28) (kX5_spare.at 13 rfl) (by decide) ?_
        refine a_istore_n (ls' := [(0, vR 0), (1, vI i), (2, vI 0)]) (kX5_spare.at 15 rfl) (by decide) rfl ?_
        refine a_iconst (kX5_spare.at 16 rfl) rfl ?_
        refine a_istore_n (ls' := [(0, vR 0), (1, vI i), (2, vI 0), (3, vI 0)]) (kX5_spare.at 17 rfl) (by decide) rfl ?_
        refine l_kspare1 G M K i 0 _ hC h ?_
        intro N1 e1 hy1
        show AW _ _ _ _ _ _ 71 [(0, vR 0), (1, vI i), (2, vI (forR 0 (K 44 9) (sk1 (reads K).1) 0)), (3, vI e1)] [] N1
        refine a_iconst (kX5_spare.at 40 rfl) rfl ?_
        refine a_istore_n (ls' := [(0, vR 0), (1, vI i), (2, vI (forR 0 (K 44 9) (sk1 (reads K).1) 0)), (3, vI 0)]) (kX5_spare.at 41 rfl) (by decide) rfl ?_
        refine l_kspare3 G M K N1 i _ _ hC h hy1 h9.1 ?_
        intro N2 hy2; rw [eB]
        show AW _ _ _ _ _ _ 144 [(0, vR 0), (1, vI i), (2, vI (spB (reads K).1)), (3, vI (K 44 9))] [] N2
        have hs := hs (by omega)
        refine a_iload_n (kX5_spare.at 79 rfl) 2 rfl ?_
        refine a_iconst (kX5_spare.at 80 rfl) rfl ?_
        refine a_icmpne (tgt := 151) (kX5_spare.at 81 rfl) (by decide) (fun h146 => ?_) (fun h146 => ?_)
        · refine a_iload_n (kX5_spare.at 84 rfl) 1 rfl ?_
          refine a_iconst (kX5_spare.at 85 rfl) rfl ?_
          refine a_icmpne (tgt := 163) (kX5_spare.at 86 rfl) (by decide) (fun h153 => ?_) (fun h153 => ?_)
          · refine a_iload_n (kX5_spare.at 90 rfl) 2 rfl ?_
            refine a_iload_n (kX5_spare.at 91 rfl) 1 rfl ?_
            refine AW.callS (as := [vI (spB (reads K).1), vI i]) (st := []) (kX5_spare.at 92 rfl) ml_X5_186 ss_X5_placeOfBit ⟨Nat.le_of_ble_eq_true rfl, Nat.le_of_ble_eq_true rfl⟩ ⟨Nat.le_refl _, Nat.le_refl _⟩ rfl rfl (Nat.le_of_ble_eq_true rfl) (k_placeOfBit G N2 (spB (reads K).1) i (by omega)) (kIE ?_)
            exact a_iret (kX5_spare.at 93 rfl) (⟨by first | (rw [← (hs).2]; unfold spA; first | exact (if_pos (by omega)).symm | (rw [if_neg (by omega)]; first | exact (if_pos (by omega)).symm | exact (if_neg (by omega)).symm)) | (unfold o_spare; exact (if_neg (by omega)).symm), by first | exact hy2 | exact Fy.refl M⟩)
          · refine a_iload_n (kX5_spare.at 87 rfl) 2 rfl ?_
            refine AW.callS (as := [vI (spB (reads K).1)]) (st := []) (kX5_spare.at 88 rfl) ml_X5_181 ss_J6_bitCount_0f7a4 ⟨Nat.le_of_ble_eq_true rfl, Nat.le_of_ble_eq_true rfl⟩ ⟨Nat.le_refl _, Nat.le_refl _⟩ rfl rfl (Nat.le_of_ble_eq_true rfl) (k_bitCount G N2 (spB (reads K).1) (by omega)) (kIE ?_)
            refine a_goto (tgt := 168) (kX5_spare.at 89 rfl) (by decide) ?_
            exact a_iret (kX5_spare.at 93 rfl) (⟨by first | (rw [← (hs).2]; unfold spA; first | exact (if_pos (by omega)).symm | (rw [if_neg (by omega)]; first | exact (if_pos (by omega)).symm | exact (if_neg (by omega)).symm)) | (unfold o_spare; exact (if_neg (by omega)).symm), by first | exact hy2 | exact Fy.refl M⟩)
        · refine a_iconst (kX5_spare.at 82 rfl) rfl ?_
          exact a_iret (kX5_spare.at 83 rfl) (⟨by first | (rw [← (hs).2]; unfold spA; first | exact (if_pos (by omega)).symm | (rw [if_neg (by omega)]; first | exact (if_pos (by omega)).symm | exact (if_neg (by omega)).symm)) | (unfold o_spare; exact (if_neg (by omega)).symm), by first | exact hy2 | exact Fy.refl M⟩)
    · refine a_bipush (kX5_spare.at 6 rfl) rfl rfl ?_
      exact a_iret (kX5_spare.at 7 rfl) (⟨by first | (rw [← (hs).2]; unfold spA; first | exact (if_pos (by omega)).symm | (rw [if_neg (by omega)]; first | exact (if_pos (by omega)).symm | exact (if_neg (by omega)).symm)) | (unfold o_spare; exact (if_neg (by omega)).symm), by first | exact hy2 | exact Fy.refl M⟩)
