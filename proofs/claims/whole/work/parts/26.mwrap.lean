/-! ===== the reference: specs are told by what goes in ===== -/
/-- what goes in is alike, and what was seen -/
def IE (M N : Mem) : Prop := InE M N ∧ N 44 28 = M 44 28 ∧ ∀ j, N 60 j = M 60 j
theorem IE.trans {M N K : Mem} (h1 : IE M N) (h2 : IE N K) : IE M K := ⟨h1.1.trans h2.1, h2.2.1.trans h1.2.1, fun j => (h2.2.2 j).trans (h1.2.2 j)⟩
theorem Fq.ie {M N : Mem} (hF : Fq M N) (h12 : M 44 12 = -1) : IE M N := ⟨hF.inE h12, hF.q28, hF.q60⟩
theorem InE.up50 {M N : Mem} (h : InE M N) (i v : Int) : InE (upm M 50 i v) (upm N 50 i v) := by
  refine ⟨h.1, fun j a b => ?_, h.2.2⟩
  rw [upm_same, upm_same]
  unfold ups
  split
  · rfl
  · exact h.2.1 j a b
theorem InE.up11 {M N : Mem} (h : InE M N) (v : Int) : InE (upm M 44 11 v) (upm N 44 11 v) := by
  obtain ⟨⟨a1, a2, a3, a4, a5⟩, a6, a7⟩ := h
  have e : ∀ (K : Mem) (j : Int), j ≠ 11 → upm K 44 11 v 44 j = K 44 j := fun K j hj => rd_ni hj
  refine ⟨⟨?_, ?_, by rw [rd_eq, rd_eq], ?_, ?_⟩, ?_, ?_⟩
  · rw [e N 7 (by decide), e M 7 (by decide)]; exact a1
  · rw [e N 9 (by decide), e M 9 (by decide)]; exact a2
  · rw [e N 12 (by decide), e M 12 (by decide)]; exact a4
  · rw [e N 13 (by decide), e M 13 (by decide), e N 14 (by decide), e M 14 (by decide), e M 12 (by decide)]; exact a5
  · rw [e M 7 (by decide)]; exact a6
  · rw [e M 9 (by decide)]; exact a7
theorem InE.odd {M N : Mem} (h : InE M N) (q k v : Int) : InE (upm (upm (upm M 44 12 q) 44 14 k) 44 13 v) (upm (upm (upm N 44 12 q) 44 14 k) 44 13 v) := by
  obtain ⟨⟨a1, a2, a3, a4, a5⟩, a6, a7⟩ := h
  have e : ∀ (K : Mem) (j : Int), j ≠ 12 → j ≠ 13 → j ≠ 14 → upm (upm (upm K 44 12 q) 44 14 k) 44 13 v 44 j = K 44 j := fun K j x y z => by rw [rd_ni y, rd_ni z, rd_ni x]
  refine ⟨⟨?_, ?_, ?_, rfl, Or.inr ⟨rfl, Or.inr rfl⟩⟩, ?_, ?_⟩
  · rw [e N 7 (by decide) (by decide) (by decide), e M 7 (by decide) (by decide) (by decide)]; exact a1
  · rw [e N 9 (by decide) (by decide) (by decide), e M 9 (by decide) (by decide) (by decide)]; exact a2
  · rw [e N 11 (by decide) (by decide) (by decide), e M 11 (by decide) (by decide) (by decide)]; exact a3
  · rw [e M 7 (by decide) (by decide) (by decide)]; exact a6
  · rw [e M 9 (by decide) (by decide) (by decide)]; exact a7
theorem InE.hol {M N : Mem} (h : InE M N) (q : Int) : InE (upm (upm M 44 13 3) 44 12 q) (upm (upm N 44 13 3) 44 12 q) := by
  obtain ⟨⟨a1, a2, a3, a4, a5⟩, a6, a7⟩ := h
  have e : ∀ (K : Mem) (j : Int), j ≠ 12 → j ≠ 13 → upm (upm K 44 13 3) 44 12 q 44 j = K 44 j := fun K j x y => by rw [rd_ni x, rd_ni y]
  refine ⟨⟨?_, ?_, ?_, rfl, Or.inr ⟨rfl, Or.inl rfl⟩⟩, ?_, ?_⟩
  · rw [e N 7 (by decide) (by decide), e M 7 (by decide) (by decide)]; exact a1
  · rw [e N 9 (by decide) (by decide), e M 9 (by decide) (by decide)]; exact a2
  · rw [e N 11 (by decide) (by decide), e M 11 (by decide) (by decide)]; exact a3
  · rw [e M 7 (by decide) (by decide)]; exact a6
  · rw [e M 9 (by decide) (by decide)]; exact a7
theorem settleS_E {M N : Mem} (h : InE M N) (hB : BI M) {k : Int} (hk : 0 ≤ k ∧ k < M 44 7) (w : Int) : settleS N k w = settleS M k w := by
  have e : forR 0 10 (stP N k) (-1, 999) = forR 0 10 (stP M k) (-1, 999) := forR_cong fun x z _ _ => by
    have e1 : isFree N k x = isFree M k x := by
      unfold isFree
      rw [h.1.1]
      refine forR_cong fun j is a b => ?_
      unfold ifF
      rw [h.2.1 (3 * j + 2) (by omega) (by omega)]
    have e2 : mvS N k x = mvS M k x := movesNow_E (lives_E (h.up50 (3 * k + 2) x) hB.1.1.1)
    unfold stP
    rw [e1, e2]
  unfold settleS
  rw [e]
theorem thinkS_E {M N : Mem} (h : InE M N) (hB : BI M) (k w : Int) : thinkS N k w = thinkS M k w := by
  have e : forR 0 3 (thP N k) (-1, 999) = forR 0 3 (thP M k) (-1, 999) := forR_cong fun v z _ _ => by
    have e2 : mvT N k v = mvT M k v := movesNow_E (lives_E (h.odd 0 k v) hB.1.1.1)
    unfold thP
    rw [e2]
  unfold thinkS
  rw [e]
theorem restS_E {M N : Mem} (h : InE M N) (hB : BI M) (w : Int) : restS N w = restS M w := by
  have e : forR 0 16 (rsP N) (-1, 999) = forR 0 16 (rsP M) (-1, 999) := forR_cong fun q z _ _ => by
    have e2 : mvR N q = mvR M q := movesNow_E (lives_E (h.hol q) hB.1.1.1)
    unfold rsP
    rw [e2]
  unfold restS
  rw [e]
theorem fstR_cong {lo hi : Int} {p q : Int → Bool} (h : ∀ a, p a = q a) : fstR lo hi p = fstR lo hi q := by
  rw [show p = q from funext h]
theorem spareS_E {M N : Mem} (h : InE M N) (hB : BI M) (i : Int) : spareS N i = spareS M i := by
  have e0 : ∀ b, trG N b = trG M b := fun b => (lives_E (h.up11 b) hB.1.1.1).1.2.2.1
  have e1 : sp1 N = sp1 M := by unfold sp1; rw [h.1.2.1]; exact fstR_cong fun a => by rw [e0]
  have e2 : ∀ a, sp2b N a = sp2b M a := fun a => by unfold sp2b; rw [h.1.2.1]; exact fstR_cong fun b => by rw [e0]
  have e3 : sp2a N = sp2a M := by unfold sp2a; rw [h.1.2.1]; exact fstR_cong fun a => by rw [e2]
  unfold spareS
  rw [e0, e1, e3, e2]
theorem neverS_E {M N : Mem} (h : IE M N) (hB : BI M) (hQ : QI M) : neverS N = neverS M := by
  unfold neverS
  rw [h.1.1.2.1]
  refine forR_cong fun i b _ _ => ?_
  unfold nvF
  rw [seen_E (h.1.up11 (iShl 1 i)) (hB.1.fld (j := 11) (by omega)) (hQ.of (N := upm M 44 11 (iShl 1 i)) rfl (fun _ => rfl)) h.2.1 h.2.2]
theorem soF_E {M N : Mem} (h : IE M N) (hQ : QI M) {j v : Int} (hL : LI (upm M 50 j v)) (b : Int) : soF N j v b = soF M j v b := by
  unfold soF
  rw [seen_E (h.1.up50 j v) hL (hQ.of rfl (fun _ => rfl)) h.2.1 h.2.2]
theorem sortS_E {M N : Mem} (h : IE M N) (hB : BI M) (hQ : QI M) (k : Int) : sortS N k = sortS M k := forR_cong fun v b _ _ => soF_E h hQ hB.1.sort b
theorem thoughtS_E {M N : Mem} (h : IE M N) (hB : BI M) (hQ : QI M) (k : Int) : thoughtS N k = thoughtS M k := forR_cong fun v b _ _ => soF_E h hQ hB.1.views b
theorem hsT_E {M N : Mem} (h : InE M N) (hB : BI M) {k : Int} (hk : 0 ≤ k ∧ k < M 44 7) {v q : Int} (hq : 0 ≤ q ∧ q ≤ 15) : hsT N k v q = hsT M k v q :=
  (lives_E (h.up50 (3 * k + 1) v) hB.1.1.1).2 q k 0 hq.1 hq.2 hk.1 (by rw [(Fr_lives _).people]; exact hk.2) (by omega)
theorem askS_E {M N : Mem} (h : IE M N) (hB : BI M) (hQ : QI M) {k : Int} (hk : 0 ≤ k ∧ k < M 44 7) : askS N k = askS M k := by
  unfold askS
  rw [thoughtS_E h hB hQ]
  have := forR_rel (lo := 1) (hi := 16) (f := akF (hsT M k) (thoughtS M k)) (g := akF (hsT N k) (thoughtS M k)) (a := (0 : Int)) (b := (0 : Int)) (fun _ x y => y = x ∧ 0 ≤ x ∧ x ≤ 15) (by omega) ⟨rfl, by omega, by omega⟩ (fun q x y a b h9 => by
    obtain ⟨rfl, h1, h2⟩ := h9
    unfold akF
    rw [alikeF_E (h1 := hsT M k) (h2 := hsT N k) (q := q) (fun v _ _ => hsT_E h.1 hB hk (by omega)), alikeF_E (h1 := hsT M k) (h2 := hsT N k) (q := y) (fun v _ _ => hsT_E h.1 hB hk (by omega))]
    refine ⟨rfl, ?_⟩
    split <;> omega)
  exact this.1
theorem chanceS_E {M N : Mem} (h : InE M N) (hB : BI M) {k : Int} (hk : 0 ≤ k ∧ k < M 44 7) (c w : Int) : chanceS N c k w = chanceS M c k w := by
  have e : chAb N c k = chAb M c k := by
    unfold chAb
    rw [h.1.2.1]
    refine forR_cong fun sm a _ _ => ?_
    unfold chA chMv
    rw [((lives_E (h.up11 sm) hB.1.1.1).1.2.1 k hk.1 (by rw [(Fr_lives _).people]; exact hk.2)).2.2.1, h.1.2.1]
  unfold chanceS
  rw [e, h.1.2.1]
theorem dcF_51 (i : Int) (K : Mem) (j : Int) : dcF i K 51 j = ups (ups (ups (K 51) (3 * K 44 9) (lotS (nxS (K 44 31)) 4)) (3 * K 44 9 + 1) (lotS (nxS (nxS (K 44 31))) 16)) (3 * K 44 9 + 2) (lotS (nxS (nxS (nxS (K 44 31)))) (K 44 7)) j := by
  have e9 : ∀ (z : Mem) (u v w : Int), upm (upm (upm z 44 31 u) 44 31 v) 44 31 w 44 9 = z 44 9 := fun z u v w => by rw [rd_ni (by decide), rd_ni (by decide), rd_ni (by decide)]
  have e51 : ∀ (z : Mem) (u v w : Int), upm (upm (upm z 44 31 u) 44 31 v) 44 31 w 51 = z 51 := fun z u v w => by rw [upm_ne (by decide), upm_ne (by decide), upm_ne (by decide)]
  unfold dcF keeps
  rw [e9, upm_ne (show (51 : Nat) ≠ 44 by decide), upm_same, upm_same, upm_same, e51]
theorem decN_E {M N : Mem} (h : InE M N) (hB : BI M) (seed n : Int) (hn : 0 ≤ n ∧ n ≤ 8) : InE (decN M seed n) (decN N seed n) ∧ decN M seed n 44 7 = M 44 7 := by
  have hn' : 0 ≤ (if 0 < M 44 7 then n else 0) ∧ (if 0 < M 44 7 then n else 0) ≤ 8 := by split <;> omega
  have e0 : ∀ (K : Mem) (j : Int), j ≠ 31 → j ≠ 9 → upm (upm K 44 31 seed) 44 9 0 44 j = K 44 j := fun K j a b => by rw [rd_ni b, rd_ni a]
  have h0 : InE (upm (upm M 44 31 seed) 44 9 0) (upm (upm N 44 31 seed) 44 9 0) := by
    refine ⟨⟨?_, rfl, ?_, ?_, Or.inl ?_⟩, ?_, fun j a b => ?_⟩
    · rw [e0 N 7 (by decide) (by decide), e0 M 7 (by decide) (by decide)]; exact h.1.1
    · rw [e0 N 11 (by decide) (by decide), e0 M 11 (by decide) (by decide)]; exact h.1.2.2.1
    · rw [e0 N 12 (by decide) (by decide), e0 M 12 (by decide) (by decide)]; exact h.1.2.2.2.1
    · rw [e0 M 12 (by decide) (by decide)]; exact hB.2.2
    · rw [e0 M 7 (by decide) (by decide)]; exact h.2.1
    · rw [rd_eq] at b; omega
  have key := forR_rel (lo := 0) (hi := if 0 < M 44 7 then n else 0) (f := dcF) (g := dcF) (a := upm (upm M 44 31 seed) 44 9 0) (b := upm (upm N 44 31 seed) 44 9 0) (fun i (x y : Mem) => (InE x y ∧ y 44 31 = x 44 31) ∧ x 44 7 = M 44 7 ∧ x 44 12 = -1) hn'.1 ⟨⟨h0, rfl⟩, rfl, hB.2.2⟩ (fun i x y a b hh => ?_)
  · unfold decN
    rw [h.1.1]
    exact ⟨key.1.1, key.2.1⟩
  · obtain ⟨⟨h1, h2⟩, h3, h4⟩ := hh
    have f : ∀ (K : Mem) (j : Int), ¬ (j = 9 ∨ j = 31) → dcF i K 44 j = K 44 j := fun K j hj => dcF_fr i K 44 j (by decide) (by omega)
    have e9 : ∀ (z : Mem) (u v w : Int), upm (upm (upm z 44 31 u) 44 31 v) 44 31 w 44 9 = z 44 9 := fun z u v w => by rw [rd_ni (by decide), rd_ni (by decide), rd_ni (by decide)]
    have e51 : ∀ (z : Mem) (u v w : Int), upm (upm (upm z 44 31 u) 44 31 v) 44 31 w 51 = z 51 := fun z u v w => by rw [upm_ne (by decide), upm_ne (by decide), upm_ne (by decide)]
    refine ⟨⟨⟨⟨?_, ?_, ?_, ?_, Or.inl ?_⟩, fun j c d => ?_, fun j c d => ?_⟩, ?_⟩, (f x 7 (by omega)).trans h3, (f x 12 (by omega)).trans h4⟩
    · rw [f y 7 (by omega), f x 7 (by omega)]; exact h1.1.1
    · rw [dcF_9, dcF_9, h1.1.2.1]
    · rw [f y 11 (by omega), f x 11 (by omega)]; exact h1.1.2.2.1
    · rw [f y 12 (by omega), f x 12 (by omega)]; exact h1.1.2.2.2.1
    · rw [f x 12 (by omega)]; exact h4
    · rw [f x 7 (by omega)] at d
      rw [dcF_fr i y 50 j (by decide) (by omega), dcF_fr i x 50 j (by decide) (by omega)]
      exact h1.2.1 j c d
    · rw [dcF_9] at d
      rw [dcF_51, dcF_51, h2, h1.1.2.1, h1.1.1]
      unfold ups
      split
      · rfl
      · split
        · rfl
        · split
          · rfl
          · exact h1.2.2 j c (by omega)
    · unfold dcF keeps
      rw [rd_ni (by decide), rd_ne (by decide), rd_ne (by decide), rd_ne (by decide), rd_eq, rd_ni (by decide), rd_ne (by decide), rd_ne (by decide), rd_ne (by decide), rd_eq, h2]
theorem decadesS_E {M N : Mem} (h : InE M N) (hB : BI M) (seed n w : Int) (hn : 0 ≤ n ∧ n ≤ 8) : decadesS N seed n w = decadesS M seed n w := by
  have h := decN_E h hB seed n hn
  unfold decadesS
  exact sumBy_E (lives_E h.1 (by rw [h.2]; exact hB.1.1.1)) w
/-! ===== the reference: what its calls leave ===== -/
/-- the tellings stand; scratch, and what is read off the text, may differ -/
def Fp (M N : Mem) : Prop := ∀ (c : Nat) (j : Int), c ≠ 50 → ¬ (52 ≤ c ∧ c ≤ 59) → c ≠ 61 → c ≠ 62 → ¬ (c = 44 ∧ (j = 7 ∨ j = 13 ∨ j = 14 ∨ (23 ≤ j ∧ j ≤ 27) ∨ j = 31)) → N c j = M c j
theorem Fp.refl (M : Mem) : Fp M M := fun _ _ _ _ _ _ _ => rfl
theorem Fp.trans {M N K : Mem} (h1 : Fp M N) (h2 : Fp N K) : Fp M K := fun c j a b d e f => (h2 c j a b d e f).trans (h1 c j a b d e f)
theorem Fq.fp {M N : Mem} (h : Fq M N) : Fp M N := fun c j _ b d e f => h c j b d e (by omega)
theorem Ft.fp {M N : Mem} (h : Ft M N) : Fp M N := fun c j a _ _ _ f => h c j a (by omega)
/-- what the reference's calls need, between calls -/
def MB (M : Mem) : Prop := MI M ∧ (M 44 11 = 0 ∧ M 44 12 = -1) ∧ QI M ∧ SI M
theorem find_Fp {M : Mem} (h : MI M) : Fp M (find M) := (Ft_reads M h.1.1).fp.trans (Fr_lives _).q.fp
theorem reads_Fp {M : Mem} (h : MI M) : Fp M (reads M).1 := (Ft_reads M h.1.1).fp
theorem Fp.MB {M N : Mem} (hF : Fp M N) (h : MB M) : MB N := by
  have e : ∀ j, j ≠ 7 → j ≠ 13 → j ≠ 14 → ¬ (23 ≤ j ∧ j ≤ 27) → j ≠ 31 → N 44 j = M 44 j := fun j a b c d e => hF 44 j (by omega) (by omega) (by omega) (by omega) (by omega)
  have g : ∀ c : Nat, c ≠ 44 → c ≠ 50 → ¬ (52 ≤ c ∧ c ≤ 59) → c ≠ 61 → c ≠ 62 → N c = M c := fun c a b d e f => funext fun j => hF c j b d e f (by omega)
  refine ⟨⟨?_, ?_, ?_⟩, ⟨?_, ?_⟩, ⟨?_, ?_⟩, ?_⟩
  · rw [e 6 (by omega) (by omega) (by omega) (by omega) (by omega)]; exact h.1.1
  · rw [e 6 (by omega) (by omega) (by omega) (by omega) (by omega), g 49 (by omega) (by omega) (by omega) (by omega) (by omega)]; exact h.1.2.1
  · rw [e 9 (by omega) (by omega) (by omega) (by omega) (by omega)]; exact h.1.2.2
  · rw [e 11 (by omega) (by omega) (by omega) (by omega) (by omega)]; exact h.2.1.1
  · rw [e 12 (by omega) (by omega) (by omega) (by omega) (by omega)]; exact h.2.1.2
  · rw [e 28 (by omega) (by omega) (by omega) (by omega) (by omega)]; exact h.2.2.1.1
  · rw [e 28 (by omega) (by omega) (by omega) (by omega) (by omega), g 60 (by omega) (by omega) (by omega) (by omega) (by omega)]; exact h.2.2.1.2
  · unfold SI
    rw [g 45 (by omega) (by omega) (by omega) (by omega) (by omega), g 46 (by omega) (by omega) (by omega) (by omega) (by omega)]; exact h.2.2.2
theorem reads_BI {M : Mem} (h : MB M) : BI (reads M).1 ∧ QI (reads M).1 := by
  have hF := Ft_reads M h.1.1.1
  have h2 := (hF.fp).MB h
  exact ⟨⟨⟨reads_PG M h.1.1, h2.1.2.2⟩, h2.2.1⟩, h2.2.2.1⟩
theorem find_BI {M : Mem} (h : MB M) : BI (find M) ∧ QI (find M) := by
  have h1 := reads_BI h
  exact ⟨h1.1.Fq (Fr_lives _).q, h1.2.Fq (Fr_lives _).q⟩
/-! reads() is told by the text -/
theorem isTaken_E {M N : Mem} {n h : Int} (e1 : N 44 7 = n) (e2 : M 44 7 = n) (hp : ∀ k, 0 ≤ k → k < n → N 50 (3 * k + 2) = M 50 (3 * k + 2)) : isTaken N h = isTaken M h := by
  unfold isTaken
  rw [e1, e2]
  exact forR_cong fun k is a b => by unfold isTakenS; rw [hp k a b]
theorem rdA_E {M N : Mem} (hb : ∀ j, N 49 j = M 49 j) {i : Int} (hi : 0 ≤ i) : (rdA N i).2 = (rdA M i).2 ∧ ((rdA M i).2 = -1 → ∀ j, 0 ≤ j → 4 * (j / 3) + j % 3 < i → (rdA N i).1 50 j = (rdA M i).1 50 j) := by
  have key := forR_rel (lo := 0) (hi := i) (f := rdF) (g := rdF) (a := (upm M 44 7 0, (-1 : Int))) (b := (upm N 44 7 0, (-1 : Int))) (fun i x y => (x = rdA M i ∧ y = rdA N i) ∧ y.2 = x.2 ∧ (x.2 = -1 → ∀ j, 0 ≤ j → 4 * (j / 3) + j % 3 < i → y.1 50 j = x.1 50 j)) hi ⟨⟨(rdA_0 M).symm, (rdA_0 N).symm⟩, rfl, fun _ j a b => by omega⟩ (fun i x y a b h => ?_)
  · exact ⟨key.2.1, key.2.2⟩
  · obtain ⟨⟨e1, e2⟩, h1, h2⟩ := h
    refine ⟨⟨by rw [rdA_s M a, e1], by rw [rdA_s N a, e2]⟩, ?_⟩
    by_cases hx : x.2 = -1
    · have px := rdA_people M a (by rw [← e1]; exact hx)
      have py := rdA_people N a (by rw [← e2, h1]; exact hx)
      have b1 : x.1 49 i = M 49 i := by rw [e1]; exact Ft_rdA M a 49 i (by decide) (by omega)
      have b2 : y.1 49 i = N 49 i := by rw [e2]; exact Ft_rdA N a 49 i (by decide) (by omega)
      rw [← e1] at px
      rw [← e2] at py
      have hby : byteOf y.1 (i % 4) (y.1 49 i) = byteOf x.1 (i % 4) (x.1 49 i) := by
        rw [b1, b2, hb]
        unfold byteOf
        rw [isTaken_E py.1 px.1 (fun k c d => h2 hx (3 * k + 2) (by omega) (by omega))]
      have ex : x = (x.1, -1) := by rw [← hx]
      have ey : y = (y.1, -1) := by rw [← hx, ← h1]
      rw [ex, ey]
      by_cases hv : byteOf x.1 (i % 4) (x.1 49 i) = -9
      · rw [rdF_bad hv, rdF_bad (by rw [hby]; exact hv)]
        refine ⟨rfl, fun hh => ?_⟩
        simp only at hh
        omega
      · rw [rdF_ok hv, rdF_ok (by rw [hby]; exact hv), hby]
        refine ⟨rfl, fun _ j c d => ?_⟩
        show rdT y.1 i _ 50 j = rdT x.1 i _ 50 j
        unfold rdT
        rw [rd_ne (by decide), rd_ne (by decide)]
        by_cases h3 : i % 4 < 3
        · rw [if_pos h3, if_pos h3, upm_same, upm_same]
          unfold ups
          by_cases h4 : j = 3 * (i / 4) + i % 4
          · rw [if_pos h4, if_pos h4]
          · rw [if_neg h4, if_neg h4]
            exact h2 hx j c (by omega)
        · rw [if_neg h3, if_neg h3]
          exact h2 hx j c (by omega)
    · have hy : ¬ y.2 = -1 := by rw [h1]; exact hx
      unfold rdF
      rw [if_pos hx, if_pos hy]
      exact ⟨h1, fun hh => absurd hh hx⟩
/-- a text that can't go on has no people -/
theorem reads_out (M : Mem) (h : 0 ≤ M 44 6 ∧ M 44 6 ≤ 31) : ((reads M).2 = -1 ∧ (reads M) = rdA M (M 44 6) ∧ (reads M).1 44 7 = (M 44 6 + 1) / 4) ∨ ((reads M).2 ≠ -1 ∧ (reads M).1 44 7 = 0) := by
  by_cases h1 : (rdA M (M 44 6)).2 = -1
  · have e : rdA M (M 44 6) = ((rdA M (M 44 6)).1, -1) := by rw [← h1]
    by_cases h2 : 0 < M 44 6 ∧ M 44 6 % 4 ≠ 3
    · rw [reads_mid e h2]
      exact Or.inr ⟨by simp only; omega, rfl⟩
    · refine Or.inl ?_
      have e2 := reads_ok e h2
      rw [e2, ← e]
      exact ⟨h1, rfl, (rdA_people M h.1 h1).1⟩
  · have key : (rdA M (M 44 6)).2 = -1 ∨ (rdA M (M 44 6)).1 44 7 = 0 := by
      refine forR_inv (lo := 0) (hi := M 44 6) (f := rdF) (a := (upm M 44 7 0, (-1 : Int))) (fun i s => s.2 = -1 ∨ s.1 44 7 = 0) h.1 (Or.inl rfl) ?_
      intro j s h1 h2 hs
      unfold rdF
      split
      · exact hs
      · split
        · exact Or.inr rfl
        · exact Or.inl rfl
    have e3 : reads M = rdA M (M 44 6) := by rw [reads_eq]; unfold reads0; rw [if_pos h1]
    rw [e3]
    exact Or.inr ⟨h1, key.resolve_left h1⟩
theorem reads_E {M N : Mem} (hF : Fp M N) (h : MI M) : (reads N).2 = (reads M).2 ∧ (reads N).1 44 7 = (reads M).1 44 7 ∧ ∀ j, 0 ≤ j → j < 3 * (reads M).1 44 7 → (reads N).1 50 j = (reads M).1 50 j := by
  have e6 : N 44 6 = M 44 6 := hF 44 6 (by omega) (by omega) (by omega) (by omega) (by omega)
  have hb : ∀ j, N 49 j = M 49 j := fun j => hF 49 j (by omega) (by omega) (by omega) (by omega) (by omega)
  have hr := rdA_E hb h.1.1
  rw [← e6] at hr
  by_cases h1 : (rdA M (M 44 6)).2 = -1
  · have eM : rdA M (M 44 6) = ((rdA M (M 44 6)).1, -1) := by rw [← h1]
    have h1N : (rdA N (N 44 6)).2 = -1 := by rw [hr.1, e6]; exact h1
    have eN : rdA N (N 44 6) = ((rdA N (N 44 6)).1, -1) := by rw [← h1N]
    by_cases h2 : 0 < M 44 6 ∧ M 44 6 % 4 ≠ 3
    · rw [reads_mid eM h2, reads_mid eN (by rw [e6]; exact h2)]
      refine ⟨e6, rfl, fun j a b => ?_⟩
      have b' : j < 3 * (upm (rdA M (M 44 6)).1 44 7 0 44 7) := b
      rw [rd_eq] at b'
      omega
    · have e2 := reads_ok eM h2
      have e3 := reads_ok eN (by rw [e6]; exact h2)
      have pM := rdA_people M h.1.1 h1
      have pN := rdA_people N (by rw [e6]; exact h.1.1) h1N
      rw [e2, e3]
      refine ⟨rfl, ?_, fun j a b => ?_⟩
      · show (rdA N (N 44 6)).1 44 7 = (rdA M (M 44 6)).1 44 7
        rw [pM.1, pN.1, e6]
      · have b' : j < 3 * (rdA M (M 44 6)).1 44 7 := b
        rw [pM.1] at b'
        have := hr.2 (by rw [e6]; exact h1) j a (by rw [e6]; omega)
        rw [e6] at this
        show (rdA N (N 44 6)).1 50 j = (rdA M (M 44 6)).1 50 j
        rw [e6]
        exact this
  · have h1N : (rdA N (N 44 6)).2 ≠ -1 := by rw [hr.1, e6]; exact h1
    have e2 : reads M = rdA M (M 44 6) := by rw [reads_eq]; unfold reads0; rw [if_pos h1]
    have e3 : reads N = rdA N (N 44 6) := by rw [reads_eq]; unfold reads0; rw [if_pos h1N]
    have oM := (reads_out M h.1).resolve_left (fun z => h1 (by rw [← e2]; exact z.1))
    have oN := (reads_out N (by rw [e6]; exact h.1)).resolve_left (fun z => h1N (by rw [← e3]; exact z.1))
    refine ⟨by rw [e2, e3, hr.1, e6], by rw [oM.2, oN.2], fun j a b => ?_⟩
    rw [oM.2] at b
    omega
theorem reads_InE {M N : Mem} (hF : Fp M N) (h : MB M) : InE (reads M).1 (reads N).1 := by
  have hr := reads_E hF h.1
  have hN := hF.MB h
  have f1 := Ft_reads M h.1.1.1
  have f2 := Ft_reads N hN.1.1.1
  have g : ∀ (c : Nat) (j : Int), c ≠ 50 → ¬ (52 ≤ c ∧ c ≤ 59) → c ≠ 61 → c ≠ 62 → ¬ (c = 44 ∧ (j = 7 ∨ j = 13 ∨ j = 14 ∨ (23 ≤ j ∧ j ≤ 27) ∨ j = 31)) → (reads N).1 c j = (reads M).1 c j := fun c j a b d e k => by
    rw [f1 c j a (by omega), f2 c j a (by omega), hF c j a b d e k]
  refine ⟨⟨hr.2.1, g 44 9 (by omega) (by omega) (by omega) (by omega) (by omega), g 44 11 (by omega) (by omega) (by omega) (by omega) (by omega), g 44 12 (by omega) (by omega) (by omega) (by omega) (by omega), Or.inl ?_⟩, hr.2.2, fun j _ _ => g 51 j (by omega) (by omega) (by omega) (by omega) (by omega)⟩
  exact (reads_BI h).1.2.2
theorem find_E {M N : Mem} (hF : Fp M N) (h : MB M) : OutE (find M) (find N) := lives_E (reads_InE hF h) (reads_PG M h.1.1).1
