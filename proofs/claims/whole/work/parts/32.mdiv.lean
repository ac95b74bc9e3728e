theorem divL_ne : ∀ (n : Nat) (x y : Int64), y.toInt.natAbs < n → ¬ (x = 0 ∧ y = 0) → ¬ (L_X7_divisor_17 n x y).1 = 0 := by
  intro n
  induction n with
  | zero => intro x y h; exact absurd h (Nat.not_lt_zero _)
  | succ n ih =>
    intro x y h hne
    rw [L_X7_divisor_17]
    by_cases hy : y = 0
    · rw [if_pos hy]
      exact fun e => hne ⟨e, hy⟩
    · rw [if_neg hy]
      exact ih _ _ (Nat.lt_of_lt_of_le (lrem_lt hy) (Nat.le_of_lt_succ h)) (fun e => hy e.1)
theorem divisor_ne {a b : Int64} (h : ¬ b = 0) : ¬ f_X7_divisor a b = 0 := by
  unfold f_X7_divisor
  dsimp only
  exact divL_ne _ _ _ (Nat.lt_succ_self _) (fun e => h e.2)
