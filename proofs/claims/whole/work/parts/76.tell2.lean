/-! ===== the reference answers alike where alike was told: questions ===== -/
theorem TF.symm {K L : Mem} (h : TF K L) : TF L K := fun c j a b d e f g => (h c j a b d e f g).symm
theorem find_TF {M : Mem} (h : MB M) : TF M (find M) := (find_Fp h.1).tf
section Q
variable {M N : Mem}
theorem find_IE (hT : TF M N) (h : MB M) : IE (find M) (find N) := by
  have hO := find_T hT.te h
  have z := ((find_TF h).symm.trans hT).trans (find_TF (hT.MB h))
  exact ⟨hO.1.1, z.f (by omega), fun j => z.c (by omega) j⟩
theorem t_fault (hT : TF M N) (h : MB M) : (reads N).2 = (reads M).2 := (reads_T hT.te h.1).1
theorem t_person (hT : TF M N) (h : MB M) (k w : Int) : o_person N k w = o_person M k w := by
  have hr := reads_T hT.te h.1
  unfold o_person
  rw [hr.2.1]
  by_cases u : (0 ≤ k ∧ k ≤ (reads M).1 44 7 - 1) ∧ 0 ≤ w ∧ w ≤ 2
  · rw [if_pos u, if_pos u, hr.2.2 _ (by omega) (by omega)]
  · rw [if_neg u, if_neg u]
theorem t_at (hT : TF M N) (h : MB M) (q k w : Int) : o_at N q k w = o_at M q k w := by
  have hO := find_T hT.te h
  unfold o_at
  rw [hO.p]
  by_cases u : (0 ≤ q ∧ q ≤ 15) ∧ (0 ≤ k ∧ k ≤ find M 44 7 - 1) ∧ 0 ≤ w ∧ w ≤ 3
  · rw [if_pos u, if_pos u, atBy_E hO u.1 (by omega)]
  · rw [if_neg u, if_neg u]
theorem t_house (hT : TF M N) (h : MB M) (q x : Int) : o_house N q x = o_house M q x := by
  have hO := find_T hT.te h
  unfold o_house
  by_cases u : (0 ≤ q ∧ q ≤ 15) ∧ 0 ≤ x ∧ x ≤ 9
  · rw [if_pos u, if_pos u, houseOf_E hO u.1]
  · rw [if_neg u, if_neg u]
theorem t_pairs (hT : TF M N) (h : MB M) (q w : Int) : o_pairs N q w = o_pairs M q w := by
  have hO := find_T hT.te h
  unfold o_pairs
  by_cases u : (0 ≤ q ∧ q ≤ 15) ∧ 0 ≤ w ∧ w ≤ 1
  · rw [if_pos u, if_pos u, pairsOf_E hO u.1]
  · rw [if_neg u, if_neg u]
theorem t_bored (hT : TF M N) (h : MB M) (k : Int) : o_bored N k = o_bored M k := by
  have hO := find_T hT.te h
  unfold o_bored
  rw [hO.p]
  by_cases u : 0 ≤ k ∧ k ≤ find M 44 7 - 1
  · rw [if_pos u, if_pos u, boredOf_E hO (by omega)]
  · rw [if_neg u, if_neg u]
theorem t_sum (hT : TF M N) (h : MB M) (w : Int) : o_sum N w = o_sum M w := by
  unfold o_sum
  rw [sumBy_E (find_T hT.te h)]
theorem t_first (hT : TF M N) (h : MB M) (w : Int) : o_first N w = o_first M w := by
  have hO := find_T hT.te h
  unfold o_first
  rw [hO.1.2.2.2.2.1, hO.1.2.2.2.2.2]
theorem t_rooted (hT : TF M N) (h : MB M) : rootedNow (find N) = rootedNow (find M) := rootedNow_E (find_T hT.te h)
theorem t_friends (hT : TF M N) (h : MB M) (k : Int) : o_friends N k = o_friends M k := by
  have hO := find_T hT.te h
  unfold o_friends
  rw [hO.p]
  by_cases u : 0 ≤ k ∧ k ≤ find M 44 7 - 1
  · rw [if_pos u, if_pos u, friendsOf_E hO (by omega)]
  · rw [if_neg u, if_neg u]
theorem t_settle (hT : TF M N) (h : MB M) (k w : Int) : o_settle N k w = o_settle M k w := by
  have hO := find_T hT.te h
  unfold o_settle
  rw [hO.p]
  by_cases u : (0 ≤ k ∧ k ≤ find M 44 7 - 1) ∧ 0 ≤ w ∧ w ≤ 1
  · rw [if_pos u, if_pos u, settleS_E (find_IE hT h).1 (find_BI h).1 (by omega)]
  · rw [if_neg u, if_neg u]
theorem t_think (hT : TF M N) (h : MB M) (k w : Int) : o_think N k w = o_think M k w := by
  have hO := find_T hT.te h
  unfold o_think
  rw [hO.p, thinkS_E (find_IE hT h).1 (find_BI h).1]
theorem t_rest (hT : TF M N) (h : MB M) (w : Int) : o_rest N w = o_rest M w := by
  unfold o_rest
  rw [restS_E (find_IE hT h).1 (find_BI h).1]
theorem t_spare (hT : TF M N) (h : MB M) (i : Int) : o_spare N i = o_spare M i := by
  unfold o_spare
  rw [spareS_E (find_IE hT h).1 (find_BI h).1]
theorem t_never (hT : TF M N) (h : MB M) : neverS (find N) = neverS (find M) := neverS_E (find_IE hT h) (find_BI h).1 (find_BI h).2
theorem t_was (hT : TF M N) (h : MB M) (k w : Int) : o_was N k w = o_was M k w := by
  have hO := find_T hT.te h
  unfold o_was wasS
  rw [hO.p, thoughtS_E (find_IE hT h) (find_BI h).1 (find_BI h).2, sortS_E (find_IE hT h) (find_BI h).1 (find_BI h).2]
theorem t_ask (hT : TF M N) (h : MB M) (k : Int) : o_ask N k = o_ask M k := by
  have hO := find_T hT.te h
  unfold o_ask
  rw [hO.p]
  by_cases u : 0 ≤ k ∧ k ≤ find M 44 7 - 1
  · rw [if_pos u, if_pos u, askS_E (find_IE hT h) (find_BI h).1 (find_BI h).2 (by omega)]
  · rw [if_neg u, if_neg u]
theorem t_chance (hT : TF M N) (h : MB M) (c k w : Int) : o_chance N c k w = o_chance M c k w := by
  have hO := find_T hT.te h
  unfold o_chance
  rw [hO.p]
  by_cases u : (0 ≤ c ∧ c ≤ 16) ∧ (0 ≤ k ∧ k ≤ find M 44 7 - 1) ∧ 0 ≤ w ∧ w ≤ 1
  · rw [if_pos u, if_pos u, chanceS_E (find_IE hT h).1 (find_BI h).1 (by omega)]
  · rw [if_neg u, if_neg u]
theorem t_decades (hT : TF M N) (h : MB M) (s n w : Int) : o_decades N s n w = o_decades M s n w := by
  unfold o_decades
  by_cases u : (0 ≤ n ∧ n ≤ 8) ∧ 0 ≤ w ∧ w ≤ 1
  · rw [if_pos u, if_pos u, decadesS_E (find_IE hT h).1 (find_BI h).1 _ _ _ u.1]
  · rw [if_neg u, if_neg u]
theorem t_count (hT : TF M N) (h : MB M) (w : Int) : o_count N w = o_count M w := by
  have hO := find_T hT.te h
  unfold o_count
  rw [hO.1.1.1.1, sumBy_E hO, rootedNow_E hO, hT.f (j := 6) (by omega), hT.f (j := 9) (by omega), hT.f (j := 28) (by omega), hT.f (j := 4) (by omega)]
theorem t_digest (hT : TF M N) (h : MB M) : digS N = digS M := by
  have hN := hT.MB h
  have hI : IE (reads M).1 (reads N).1 := ⟨reads_InT hT.te h, by rw [reads_28 h, reads_28 hN, hT.f (by omega)], fun j => by rw [reads_60 h, reads_60 hN, hT.c (by omega)]⟩
  have hR := reads_BI h
  have e : forR 0 8 (dg1F N) 17 = forR 0 8 (dg1F M) 17 := forR_cong fun k y _ _ => by unfold dg1F; rw [t_count hT h]
  unfold digS
  rw [dgT_E hI hR.1 hR.2, t_fault hT h, e]
end Q
/-! ===== and where something is told ===== -/
noncomputable def TS (M N : Mem) (v v' : Int) (K L : Mem) : Prop := v' = v ∧ TF K L ∧ MB K ∧ ∀ (c : Nat) (x : Int), c < 44 → L c x = N c x
theorem MB.of {K L : Mem} (h : MB K) (e : ∀ j, j = 6 ∨ j = 9 ∨ j = 11 ∨ j = 12 ∨ j = 28 → L 44 j = K 44 j) (e49 : ∀ j, L 49 j = K 49 j) (e60 : ∀ j, L 60 j = K 60 j) (hS : SI L) : MB L := by
  refine ⟨⟨?_, fun i a b => ?_, ?_⟩, ⟨?_, ?_⟩, ⟨?_, fun i a b => ?_⟩, hS⟩
  · rw [e 6 (by omega)]; exact h.1.1
  · rw [e 6 (by omega)] at b; rw [e49]; exact h.1.2.1 i a b
  · rw [e 9 (by omega)]; exact h.1.2.2
  · rw [e 11 (by omega)]; exact h.2.1.1
  · rw [e 12 (by omega)]; exact h.2.1.2
  · rw [e 28 (by omega)]; exact h.2.2.1.1
  · rw [e 28 (by omega)] at b; rw [e60]; exact h.2.2.1.2 i a b
section S
variable {M N : Mem}
theorem s_id (hT : TF M N) (h : MB M) (v : Int) : TS M N v v M N := ⟨rfl, hT, h, fun _ _ _ => rfl⟩
theorem s_type (hT : TF M N) (h : MB M) (b : Int) : TS M N (o_type M b).1 (o_type N b).1 (o_type M b).2 (o_type N b).2 := by
  have e6 := hT.f (j := 6) (by omega)
  unfold o_type
  rw [e6]
  by_cases u : 0 ≤ b ∧ b ≤ 255
  · rw [if_pos u, if_pos u]
    by_cases v : M 44 6 = 31
    · rw [if_pos v, if_pos v]
      exact s_id hT h _
    · rw [if_neg v, if_neg v]
      exact ⟨rfl, (hT.up _ _ _).up _ _ _, MB_type h u (by have := h.1.1; omega), fun c x a => by show upm (upm N 49 (M 44 6) b) 44 6 (M 44 6 + 1) c x = N c x; rw [rd_ne (by omega), rd_ne (by omega)]⟩
  · rw [if_neg u, if_neg u]
    exact s_id hT h _
theorem s_wipe (hT : TF M N) (h : MB M) : TS M N (M 44 6) (N 44 6) (upm M 44 6 0) (upm N 44 6 0) := ⟨hT.f (by omega), hT.up _ _ _, MB_len h (by have := h.1.1; omega), fun c x a => rd_ne (by omega)⟩
theorem s_undo (hT : TF M N) (h : MB M) : TS M N (o_undo M).1 (o_undo N).1 (o_undo M).2 (o_undo N).2 := by
  have e6 := hT.f (j := 6) (by omega)
  unfold o_undo
  rw [e6]
  by_cases v : M 44 6 = 0
  · rw [if_pos v, if_pos v]
    exact s_id hT h _
  · rw [if_neg v, if_neg v]
    exact ⟨rfl, hT.up _ _ _, MB_len h (by have := h.1.1; omega), fun c x a => rd_ne (by omega)⟩
theorem TF_keeps (hT : TF M N) (a b c : Int) : TF (keeps M a b c) (keeps N a b c) := by
  unfold keeps
  rw [hT.f (j := 9) (by omega)]
  exact (((hT.up _ _ _).up _ _ _).up _ _ _).up _ _ _
theorem s_event (hT : TF M N) (h : MB M) (a b c : Int) : TS M N (o_event M a b c).1 (o_event N a b c).1 (o_event M a b c).2 (o_event N a b c).2 := by
  have e9 := hT.f (j := 9) (by omega)
  unfold o_event
  rw [e9]
  by_cases u : (0 ≤ a ∧ a ≤ 3) ∧ (0 ≤ b ∧ b ≤ 15) ∧ (0 ≤ c ∧ c ≤ 7)
  · rw [if_pos u, if_pos u]
    by_cases v : M 44 9 = 8
    · rw [if_pos v, if_pos v]
      exact s_id hT h _
    · rw [if_neg v, if_neg v]
      exact ⟨rfl, TF_keeps hT a b c, MB_keeps h a b c (by have := h.1.2.2; omega), fun k x z => keeps_f N a b c k x (by omega) (by omega)⟩
  · rw [if_neg u, if_neg u]
    exact s_id hT h _
theorem s_back (hT : TF M N) (h : MB M) : TS M N (o_back M).1 (o_back N).1 (o_back M).2 (o_back N).2 := by
  have e9 := hT.f (j := 9) (by omega)
  unfold o_back
  rw [e9]
  by_cases v : M 44 9 = 0
  · rw [if_pos v, if_pos v]
    exact s_id hT h _
  · rw [if_neg v, if_neg v]
    exact ⟨rfl, hT.up _ _ _, MB_back h (by have := h.1.2.2; omega), fun c x a => rd_ne (by omega)⟩
theorem s_rdE (s sz : Int) : ∀ (f : Nat) (n : Int) {M N : Mem}, TF M N → MB M → TS M N (rdE s sz f n M).1 (rdE s sz f n N).1 (rdE s sz f n M).2 (rdE s sz f n N).2 := by
  intro f
  induction f with
  | zero => intro n M N hT h; exact s_id hT h _
  | succ f ih =>
    intro n M N hT h
    rw [rdE_s, rdE_s, hT.c (c := 47) (by omega), hT.c (c := 47) (by omega), hT.c (c := 47) (by omega)]
    by_cases u : 3 * n + 3 ≤ sz
    · rw [if_pos u, if_pos u]
      have z := s_event hT h (M 47 (60 * s + 3 * n)) (M 47 (60 * s + 3 * n + 1)) (M 47 (60 * s + 3 * n + 2))
      rw [z.1]
      by_cases v : (o_event M (M 47 (60 * s + 3 * n)) (M 47 (60 * s + 3 * n + 1)) (M 47 (60 * s + 3 * n + 2))).1 < 0
      · rw [if_pos v, if_pos v]
        exact s_id hT h _
      · rw [if_neg v, if_neg v]
        have y := ih (n + 1) z.2.1 z.2.2.1
        exact ⟨y.1, y.2.1, y.2.2.1, fun c x a => (y.2.2.2 c x a).trans (z.2.2.2 c x a)⟩
    · rw [if_neg u, if_neg u]
      exact s_id hT h _
theorem MB_4 (h : MB M) (v : Int) : MB (upm M 44 4 v) := h
theorem s_find (hT : TF M N) (h : MB M) (v : Int) (n : Int) : TS M N v v (upm M 44 4 n) (upm N 44 4 n) := ⟨rfl, hT.up _ _ _, MB_4 h n, fun c x a => rd_ne (by omega)⟩
theorem s_read (hT : TF M N) (h : MB M) (s : Int) : TS M N (o_read M s).1 (o_read N s).1 (o_read M s).2 (o_read N s).2 := by
  unfold o_read
  rw [hT.c (c := 45) (by omega), hT.c (c := 46) (by omega)]
  by_cases u : 0 ≤ s ∧ s ≤ 3
  · rw [if_pos u, if_pos u]
    by_cases v : M 45 s < 0
    · rw [if_pos v, if_pos v]
      exact s_find hT h _ 1
    · rw [if_neg v, if_neg v]
      exact s_rdE s _ 21 0 hT h
  · rw [if_neg u, if_neg u]
    exact s_id hT h _
theorem s_seen (hT : TF M N) (h : MB M) (a b c : Int) : TS M N (o_seen M a b c).1 (o_seen N a b c).1 (o_seen M a b c).2 (o_seen N a b c).2 := by
  have e28 := hT.f (j := 28) (by omega)
  unfold o_seen
  rw [e28]
  by_cases u : (0 ≤ a ∧ a ≤ 15) ∧ (0 ≤ b ∧ b ≤ 7) ∧ (0 ≤ c ∧ c ≤ 9)
  · rw [if_pos u, if_pos u]
    by_cases v : M 44 28 = 8
    · rw [if_pos v, if_pos v]
      exact s_id hT h _
    · rw [if_neg v, if_neg v]
      refine ⟨rfl, (((hT.up _ _ _).up _ _ _).up _ _ _).up _ _ _, ⟨h.1, h.2.1, ⟨?_, fun i d e => ?_⟩, h.2.2.2⟩, fun k x z => ?_⟩
      · show 0 ≤ M 44 28 + 1 ∧ M 44 28 + 1 ≤ 8
        have := h.2.2.1.1
        omega
      · have e' : i < M 44 28 + 1 := e
        show 0 ≤ ups (ups (ups (M 60) (3 * M 44 28) a) (3 * M 44 28 + 1) b) (3 * M 44 28 + 2) c (3 * i) ∧ ups (ups (ups (M 60) (3 * M 44 28) a) (3 * M 44 28 + 1) b) (3 * M 44 28 + 2) c (3 * i) ≤ 15
        rw [ups_ne (by omega), ups_ne (by omega)]
        by_cases ei : i = M 44 28
        · rw [ei, ups_same]; exact u.1
        · rw [ups_ne (by omega)]; exact h.2.2.1.2 i d (by omega)
      · show upm (upm (upm (upm N 60 (3 * M 44 28) a) 60 (3 * M 44 28 + 1) b) 60 (3 * M 44 28 + 2) c) 44 28 (M 44 28 + 1) k x = N k x
        rw [rd_ne (by omega), rd_ne (by omega), rd_ne (by omega), rd_ne (by omega)]
  · rw [if_neg u, if_neg u]
    exact s_id hT h _
theorem s_forget (hT : TF M N) (h : MB M) : TS M N (M 44 28) (N 44 28) (upm M 44 28 0) (upm N 44 28 0) := ⟨hT.f (by omega), hT.up _ _ _, ⟨h.1, h.2.1, ⟨(show (0 : Int) ≤ 0 ∧ (0 : Int) ≤ 8 by omega), fun i a b => by have b' : i < 0 := b; omega⟩, h.2.2.2⟩, fun c x a => rd_ne (by omega)⟩
theorem TF_ne {K L K' L' : Mem} (hT : TF K L) (p : Nat → Prop) (e : ∀ c : Nat, p c → K' c = K c ∧ L' c = L c) (e2 : ∀ (c : Nat) (j : Int), ¬ p c → 44 ≤ c → L' c j = K' c j) : TF K' L' := fun c j a b d f g k => by
  by_cases hc : p c
  · rw [(e c hc).1, (e c hc).2]
    exact hT c j a b d f g k
  · exact e2 c j hc a
theorem s_sheet (hT : TF M N) (h : MB M) (s f n : Int) : TS M N (o_sheet M s f n).1 (o_sheet N s f n).1 (o_sheet M s f n).2 (o_sheet N s f n).2 := by
  unfold o_sheet
  by_cases u : (0 ≤ s ∧ s ≤ 3) ∧ (0 ≤ f ∧ f ≤ 2) ∧ n ≤ 60
  · rw [if_pos u, if_pos u]
    by_cases v : n < 0
    · rw [if_pos v, if_pos v]
      exact s_find hT h _ 5
    · rw [if_neg v, if_neg v]
      have a1 := sh_all (upm (upm M 45 s f) 46 s n) s (n := n) (by omega)
      have a2 := sh_all (upm (upm N 45 s f) 46 s n) s (n := n) (by omega)
      have hU := (hT.up 45 s f).up 46 s n
      show TS M N n n (forR 0 n (shF s) (upm (upm M 45 s f) 46 s n)) (forR 0 n (shF s) (upm (upm N 45 s f) 46 s n))
      refine ⟨rfl, TF_ne hU (fun c => c ≠ 47) (fun c hc => ⟨a1.1 c hc, a2.1 c hc⟩) (fun c j hc hc2 => ?_), h.of (fun j hj => ?_) (fun j => ?_) (fun j => ?_) (fun r r1 r2 => ?_), fun c x a => ?_⟩
      · have ec : c = 47 := Classical.byContradiction hc
        subst ec
        rw [a1.2, a2.2, hU.c (by omega)]
      · rw [a1.1 44 (by omega), rd_ne (by omega), rd_ne (by omega)]
      · rw [a1.1 49 (by omega), rd_ne (by omega), rd_ne (by omega)]
      · rw [a1.1 60 (by omega), rd_ne (by omega), rd_ne (by omega)]
      · rw [a1.1 45 (by omega), a1.1 46 (by omega), rd_ne (by omega)]
        by_cases er : r = s
        · subst er
          rw [rd_eq, rd_eq]
          omega
        · rw [rd_ni er, rd_ni er, rd_ne (by omega)]
          exact h.2.2.2 r r1 r2
      · show forR 0 n (shF s) (upm (upm N 45 s f) 46 s n) c x = N c x
        rw [a2.1 c (by omega), rd_ne (by omega), rd_ne (by omega)]
  · rw [if_neg u, if_neg u]
    exact s_id hT h _
theorem s_lose (hT : TF M N) (h : MB M) (s : Int) : TS M N (o_lose M s).1 (o_lose N s).1 (o_lose M s).2 (o_lose N s).2 := by
  unfold o_lose
  rw [hT.c (c := 45) (by omega), hT.c (c := 46) (by omega)]
  by_cases u : 0 ≤ s ∧ s ≤ 3
  · rw [if_pos u, if_pos u]
    by_cases v : M 45 s < 0
    · rw [if_pos v, if_pos v]
      exact s_find hT h _ 1
    · rw [if_neg v, if_neg v]
      show TS M N (M 46 s) (M 46 s) (upm M 45 s (-1)) (upm N 45 s (-1))
      refine ⟨rfl, hT.up _ _ _, h.of (fun _ _ => rfl) (fun _ => rfl) (fun _ => rfl) (fun r r1 r2 => ?_), fun c x a => rd_ne (by omega)⟩
      have z := h.2.2.2 r r1 r2
      rw [rd_ne (k := 45) (c := 46) (by omega)]
      by_cases er : r = s
      · subst er
        rw [rd_eq]
        omega
      · rw [rd_ni er]
        exact z
  · rw [if_neg u, if_neg u]
    exact s_id hT h _
theorem s_lacks (hT : TF M N) (h : MB M) (s f i : Int) : TS M N (lacks M s f i).1 (lacks N s f i).1 (lacks M s f i).2 (lacks N s f i).2 := by
  unfold lacks
  rw [hT.c (c := 45) (by omega), hT.c (c := 46) (by omega)]
  by_cases v : M 45 s < 0
  · rw [if_pos v, if_pos v]
    exact s_find hT h _ 1
  · rw [if_neg v, if_neg v]
    by_cases w : M 45 s = f
    · rw [if_pos w, if_pos w]
      by_cases y : 0 ≤ i ∧ i ≤ M 46 s - 1
      · rw [if_pos y, if_pos y]
        exact s_id hT h _
      · rw [if_neg y, if_neg y]
        exact s_find hT h _ 2
    · rw [if_neg w, if_neg w]
      exact s_find hT h _ 3
theorem s_lay (hT : TF M N) (h : MB M) (s f i v : Int) : TS M N (o_lay M s f i v).1 (o_lay N s f i v).1 (o_lay M s f i v).2 (o_lay N s f i v).2 := by
  have z := s_lacks hT h s f i
  unfold o_lay
  by_cases u : (0 ≤ s ∧ s ≤ 3) ∧ (0 ≤ f ∧ f ≤ 2)
  · rw [if_pos u, if_pos u, z.1]
    by_cases w : (lacks M s f i).1 = 0
    · rw [if_pos w, if_pos w]
      exact ⟨rfl, hT.up _ _ _, h, fun c x a => rd_ne (by omega)⟩
    · rw [if_neg w, if_neg w]
      exact z
  · rw [if_neg u, if_neg u]
    exact s_id hT h _
theorem s_get (hT : TF M N) (h : MB M) (s f i : Int) : TS M N (o_get M s f i).1 (o_get N s f i).1 (o_get M s f i).2 (o_get N s f i).2 := by
  have z := s_lacks hT h s f i
  unfold o_get
  by_cases u : (0 ≤ s ∧ s ≤ 3) ∧ (0 ≤ f ∧ f ≤ 2)
  · rw [if_pos u, if_pos u, z.1]
    by_cases w : (lacks M s f i).1 = 0
    · rw [if_pos w, if_pos w]
      exact ⟨hT.c (by omega) _, hT, h, fun _ _ _ => rfl⟩
    · rw [if_neg w, if_neg w]
      exact ⟨rfl, z.2⟩
  · rw [if_neg u, if_neg u]
    exact s_id hT h _
theorem TF_cp (hT : TF M N) (s i t j n : Int) (hn : 0 ≤ n) : TF (forR 0 n (cp2 t j) (forR 0 n (cp1 s i) M)) (forR 0 n (cp2 t j) (forR 0 n (cp1 s i) N)) := by
  have h1 : TF (forR 0 n (cp1 s i) M) (forR 0 n (cp1 s i) N) := forR_rel (lo := 0) (hi := n) (f := cp1 s i) (g := cp1 s i) (a := M) (b := N) (fun _ x y => TF x y) hn hT (fun k x y _ _ hh => by
    unfold cp1
    rw [hh.c (c := 47) (by omega)]
    exact hh.up _ _ _)
  exact forR_rel (lo := 0) (hi := n) (f := cp2 t j) (g := cp2 t j) (fun _ x y => TF x y) hn h1 (fun k x y _ _ hh => by
    unfold cp2
    rw [hh.c (c := 48) (by omega)]
    exact hh.up _ _ _)
theorem s_copy (hT : TF M N) (h : MB M) (s i t j n : Int) : TS M N (o_copy M s i t j n).1 (o_copy N s i t j n).1 (o_copy M s i t j n).2 (o_copy N s i t j n).2 := by
  unfold o_copy
  rw [hT.c (c := 45) (by omega), hT.c (c := 46) (by omega), hT.c (c := 45) (by omega), hT.c (c := 46) (by omega)]
  by_cases u : (0 ≤ s ∧ s ≤ 3) ∧ (0 ≤ t ∧ t ≤ 3)
  · rw [if_pos u, if_pos u]
    by_cases v : M 45 s < 0 ∨ M 45 t < 0
    · rw [if_pos v, if_pos v]
      exact s_find hT h _ 1
    · rw [if_neg v, if_neg v]
      by_cases w : M 45 s = M 45 t
      · rw [if_pos w, if_pos w]
        by_cases y : 0 ≤ i ∧ 0 ≤ j ∧ 0 ≤ n ∧ i + n ≤ M 46 s ∧ j + n ≤ M 46 t
        · rw [if_pos y, if_pos y]
          have a1 := cp_all M s i t j y.2.2.1
          have a2 := cp_all N s i t j y.2.2.1
          show TS M N 1 1 (forR 0 n (cp2 t j) (forR 0 n (cp1 s i) M)) (forR 0 n (cp2 t j) (forR 0 n (cp1 s i) N))
          refine ⟨rfl, TF_cp hT s i t j n y.2.2.1, h.of (fun j _ => by rw [a1.1 44 (by omega) (by omega)]) (fun j => by rw [a1.1 49 (by omega) (by omega)]) (fun j => by rw [a1.1 60 (by omega) (by omega)]) (fun r r1 r2 => ?_), fun c x a => ?_⟩
          · rw [a1.1 45 (by omega) (by omega), a1.1 46 (by omega) (by omega)]
            exact h.2.2.2 r r1 r2
          · show forR 0 n (cp2 t j) (forR 0 n (cp1 s i) N) c x = N c x
            rw [a2.1 c (by omega) (by omega)]
        · rw [if_neg y, if_neg y]
          exact s_find hT h _ 2
      · rw [if_neg w, if_neg w]
        exact s_find hT h _ 4
  · rw [if_neg u, if_neg u]
    exact s_id hT h _
theorem s_write (hT : TF M N) (h : MB M) (k s : Int) : TS M N (o_write M k s).1 (o_write N k s).1 (o_write M k s).2 (o_write N k s).2 := by
  have hO := find_T hT.te h
  have hN := hT.MB h
  have hU : TF (find M) (find N) := ((find_TF h).symm.trans hT).trans (find_TF hN)
  have hM : MB (find M) := (find_TF h).MB h
  have low : ∀ (c : Nat) (x : Int), c < 44 → find N c x = N c x := fun c x a => find_Fp hN.1 c x (by omega) (by omega) (by omega) (by omega) (by omega)
  unfold o_write
  rw [hU.c (c := 45) (by omega), hU.c (c := 46) (by omega), hO.p]
  by_cases u : (0 ≤ k ∧ k ≤ find M 44 7 - 1) ∧ 0 ≤ s ∧ s ≤ 3
  · rw [if_pos u, if_pos u]
    by_cases v : find M 45 s < 0
    · rw [if_pos v, if_pos v]
      exact ⟨rfl, hU.up _ _ _, hM, fun c x a => (rd_ne (by omega)).trans (low c x a)⟩
    · rw [if_neg v, if_neg v]
      have hz := (hM.2.2.2 s u.2.1 u.2.2).2
      have hl : 0 ≤ lesser (find M 46 s) 16 ∧ lesser (find M 46 s) 16 ≤ 16 := by unfold lesser; split <;> omega
      have a1 := wr_all (find M) s k hl.1
      have a2 := wr_all (find N) s k hl.1
      show TS M N (lesser (find M 46 s) 16) (lesser (find M 46 s) 16) (forR 0 (lesser (find M 46 s) 16) (wrF s k) (find M)) (forR 0 (lesser (find M 46 s) 16) (wrF s k) (find N))
      refine ⟨rfl, TF_ne hU (fun c => c ≠ 47) (fun c hc => ⟨a1.1 c hc, a2.1 c hc⟩) (fun c j hc hc2 => ?_), hM.of (fun j _ => by rw [a1.1 44 (by omega)]) (fun j => by rw [a1.1 49 (by omega)]) (fun j => by rw [a1.1 60 (by omega)]) (fun r r1 r2 => ?_), fun c x a => ?_⟩
      · have ec : c = 47 := Classical.byContradiction hc
        subst ec
        rw [a1.2, a2.2]
        by_cases e : 60 * s ≤ j ∧ j < 60 * s + lesser (find M 46 s) 16
        · have z : find N 56 (8 * (j - 60 * s) + k) = find M 56 (8 * (j - 60 * s) + k) := hO.2 (j - 60 * s) k 0 (by omega) (by omega) u.1.1 (by omega) (by omega)
          rw [if_pos e, if_pos e, z, hU.c (by omega)]
        · rw [if_neg e, if_neg e, hU.c (by omega)]
      · rw [a1.1 45 (by omega), a1.1 46 (by omega)]
        exact hM.2.2.2 r r1 r2
      · show forR 0 (lesser (find M 46 s) 16) (wrF s k) (find N) c x = N c x
        rw [a2.1 c (by omega)]
        exact low c x a
  · rw [if_neg u, if_neg u]
    exact ⟨rfl, hU, hM, low⟩
end S
