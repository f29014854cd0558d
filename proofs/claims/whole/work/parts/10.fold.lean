/-! ===== loops as folds ===== -/
def itN {α : Type} (f : Int → α → α) (a : α) : Nat → α
  | 0 => a
  | n + 1 => f (n : Int) (itN f a n)
/-- f over lo .. hi - 1, upward -/
def forR {α : Type} (lo hi : Int) (f : Int → α → α) (a : α) : α := itN (fun j => f (lo + j)) a (hi - lo).toNat
theorem forR_nil {α : Type} {lo hi : Int} {f : Int → α → α} {a : α} (h : hi ≤ lo) : forR lo hi f a = a := by
  unfold forR
  rw [show (hi - lo).toNat = 0 by omega]
  rfl
theorem forR_succ {α : Type} {lo k : Int} {f : Int → α → α} {a : α} (h : lo ≤ k) : forR lo (k + 1) f a = f k (forR lo k f a) := by
  unfold forR
  rw [show (k + 1 - lo).toNat = (k - lo).toNat + 1 by omega]
  show f (lo + (((k - lo).toNat : Nat) : Int)) _ = _
  rw [show lo + (((k - lo).toNat : Nat) : Int) = k by omega]
theorem forR_inv {α : Type} {lo hi : Int} {f : Int → α → α} {a : α} (P : Int → α → Prop) (h : lo ≤ hi) (h0 : P lo a) (hs : ∀ k x, lo ≤ k → k < hi → P k x → P (k + 1) (f k x)) : P hi (forR lo hi f a) := by
  have key : ∀ n : Nat, ∀ k, lo ≤ k → k ≤ hi → (k - lo).toNat = n → P k (forR lo k f a) := by
    intro n
    induction n with
    | zero =>
      intro k h1 h2 h3
      obtain rfl : k = lo := by omega
      rw [forR_nil (Int.le_refl _)]
      exact h0
    | succ n ih =>
      intro k h1 h2 h3
      have e : k = (k - 1) + 1 := by omega
      rw [e, forR_succ (by omega)]
      exact hs (k - 1) _ (by omega) (by omega) (ih (k - 1) (by omega) (by omega) (by omega))
  exact key _ hi h (Int.le_refl _) rfl
theorem forR_cong {α : Type} {lo hi : Int} {f g : Int → α → α} {a : α} (h : ∀ k x, lo ≤ k → k < hi → f k x = g k x) : forR lo hi f a = forR lo hi g a := by
  by_cases hl : lo ≤ hi
  · have e1 : lo = hi ∨ True := Or.inr trivial
    have key : ∀ n : Nat, ∀ k, lo ≤ k → k ≤ hi → (k - lo).toNat = n → forR lo k f a = forR lo k g a := by
      intro n
      induction n with
      | zero =>
        intro k h1 h2 h3
        obtain rfl : k = lo := by omega
        rw [forR_nil (Int.le_refl _), forR_nil (Int.le_refl _)]
      | succ n ih =>
        intro k h1 h2 h3
        have e : k = (k - 1) + 1 := by omega
        rw [e, forR_succ (by omega), forR_succ (by omega), ih (k - 1) (by omega) (by omega) (by omega)]
        exact h _ _ (by omega) (by omega)
    exact key _ hi hl (Int.le_refl _) rfl
  · rw [forR_nil (by omega), forR_nil (by omega)]
