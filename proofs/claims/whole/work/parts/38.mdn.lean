theorem ten_ne {x : Int32} {k : Nat} (h : x = nI (10 ^ k)) (hk : k < 5) : ¬ x = 0 := by
  subst h
  rcases (show k = 0 ∨ k = 1 ∨ k = 2 ∨ k = 3 ∨ k = 4 by omega) with rfl | rfl | rfl | rfl | rfl <;> decide
theorem dn_of {s : Int32} {j : Nat} (hj : j ≤ 4) (e : s = nI j - 1) (h : ¬ s < 0) : ∃ a : Nat, j = a + 1 ∧ s = nI a ∧ a < 4 := by
  cases j with
  | zero => subst e; exact absurd (by decide) h
  | succ a => exact ⟨a, rfl, e.trans (nI_pred a), by omega⟩
theorem dn_m (a : Nat) : nI a + (-1) = nI a - 1 := (Int32.sub_eq_add_neg _ _).symm
