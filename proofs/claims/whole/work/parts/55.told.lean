/-! ===== the class: what is told ===== -/
noncomputable def Fz (M N : Mem) : Prop := ∀ (c : Nat) (x : Int), 44 ≤ c → N c x = M c x
theorem Fz.trans {M N K : Mem} (h1 : Fz M N) (h2 : Fz N K) : Fz M K := fun c x a => (h2 c x a).trans (h1 c x a)
theorem Fe.z {M N : Mem} (h : Fe M N) : Fz M N := fun c x a => h c x (by omega) (by omega) (by omega) (by omega) (by omega)
theorem CTe.ext {M N K : Mem} (h : CTe M K) (e : ∀ (c : Nat) (x : Int), (c = 1 ∧ x = 4) ∨ c = 14 ∨ c = 2 ∨ (18 ≤ c ∧ c ≤ 20) → N c x = M c x) : CTe N K := by
  obtain ⟨⟨h1, h2⟩, ⟨h3, h4⟩, h5⟩ := h
  refine ⟨⟨by rw [e _ _ (by omega)]; exact h1, fun i a b => by rw [e _ _ (by omega)]; exact h2 i a b⟩, ⟨by rw [e _ _ (by omega)]; exact h3, fun i a b => ?_⟩, ?_⟩
  · rw [e _ _ (by omega), e _ _ (by omega), e _ _ (by omega)]
    exact h4 i a b
  · unfold EC
    rw [e 2 3 (by omega)]
    refine ⟨h5.1, fun i a b => ?_⟩
    rw [e _ _ (by omega), e _ _ (by omega), e _ _ (by omega)]
    exact h5.2 i a b
theorem QK.ext {M N K : Mem} (h : QK M K) (e : ∀ (c : Nat) (x : Int), c = 3 ∨ (21 ≤ c ∧ c ≤ 23) → N c x = M c x) : QK N K := by
  refine ⟨by rw [e _ _ (by omega)]; exact h.1, h.2.1, fun i a b => ?_⟩
  rw [e _ _ (by omega), e _ _ (by omega), e _ _ (by omega)]
  exact h.2.2 i a b
theorem CS.ext {M N K : Mem} (h : CS M K) (e : ∀ (c : Nat) (x : Int), (c = 0 ∧ x = 10) ∨ (10 ≤ c ∧ c ≤ 13) ∨ (40 ≤ c ∧ c ≤ 43) → N c x = M c x) : CS N K := by
  refine ⟨fun s hs => ?_, by rw [e _ _ (by omega)]; exact h.2⟩
  have z := h.1 s hs
  rw [e _ _ (by omega), e _ _ (by omega)]
  exact ⟨z.1, z.2.1, fun a i b c => by rw [e _ _ (by omega)]; exact z.2.2 a i b c⟩
theorem Cp_retell {M N K : Mem} (h1 : CTe M K) (h2 : QK M K) (h3 : CS M K) (h : (TX N K ∧ SC N 0 (find K) ∧ TR N 0 (find K) 16 ∧ N 0 9 = 0) ∧ Fe M N) : Cp N K :=
  ⟨h1.ext (fun c x a => h.2 c x (by omega) (by omega) (by omega) (by omega) (by omega)), h.1.1, h2.ext (fun c x a => h.2 c x (by omega) (by omega) (by omega) (by omega) (by omega)), ⟨h.1.2.1.q, h.1.2.2.1⟩, h3.ext (fun c x a => h.2 c x (by omega) (by omega) (by omega) (by omega) (by omega)), Or.inl h.1.2.2.2⟩
