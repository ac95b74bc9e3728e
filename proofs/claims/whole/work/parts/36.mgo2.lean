theorem goL_PI {mpl : Int32} {mpg : Nat → Int32} : ∀ (n : Nat) (i a b c d e : Int32) (f : Nat → Int32), PI a b c → PI (L_X7_goAlong_27 mpl mpg n i a b c d e f).2.1 (L_X7_goAlong_27 mpl mpg n i a b c d e f).2.2.1 (L_X7_goAlong_27 mpl mpg n i a b c d e f).2.2.2.1 := by
  intro n
  induction n with
  | zero => intro i a b c d e f h; exact PI0
  | succ n ih =>
    intro i a b c d e f h
    rw [L_X7_goAlong_27]
    dsimp only
    by_cases h1 : mpl ≤ i
    · rw [if_pos h1]; exact h
    · rw [if_neg h1]
      have hz := takes_PI (d := d) (e := e) (q := mpg i.toNatClampNeg) (f := f) h
      generalize f_X7_takes a b c d e f (mpg i.toNatClampNeg) = z at hz ⊢
      by_cases h2 : z.1 = 0
      · rw [if_pos h2]; exact hz
      · rw [if_neg h2]; exact ih _ _ _ _ _ _ _ hz
theorem goAlong_PI {mpl : Int32} {mpg mna : Nat → Int32} : PI (f_X7_goAlong mpl mpg mna).2.1 (f_X7_goAlong mpl mpg mna).2.2.1 (f_X7_goAlong mpl mpg mna).2.2.2.1 := by
  unfold f_X7_goAlong
  exact goL_PI _ _ _ _ _ _ _ _ PI0
theorem trc_L4 {mtc q : Int32} (h : ¬ f_X7_within q 0 (mtc - 1) = 0) (ht : LE4 mtc) : L4 q := by
  obtain ⟨a, ha, rfl⟩ := ht
  unfold f_X7_within at h
  split at h
  · exact absurd rfl h
  · rename_i h1
    obtain ⟨k, hk, rfl⟩ := nI_of h1
    refine ⟨k, ?_, rfl⟩
    split at h
    · exact absurd rfl h
    · rename_i h2
      rcases Nat.lt_or_ge k 4 with q | q
      · exact q
      · refine absurd ?_ h2
        rcases Nat.eq_zero_or_pos a with e | e
        · subst e
          rw [Int32.lt_iff_toInt_lt, nI_toInt hk]
          have : (nI 0 - 1).toInt = -1 := by decide
          omega
        · have : nI a - 1 = nI (a - 1) := by
            have h := nI_pred (a - 1)
            rwa [show a - 1 + 1 = a by omega] at h
          rw [this]
          exact nI_lt (by omega) (by omega)
