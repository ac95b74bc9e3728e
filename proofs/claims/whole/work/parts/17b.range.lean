theorem all_of {sc : Int32} {a : Nat} (ha : a ≤ 4) (e : sc = nI a) : ∃ n : Nat, n ≤ 15 ∧ f_X2_allSources sc = nI n := by
  subst e
  rcases (show a = 0 ∨ a = 1 ∨ a = 2 ∨ a = 3 ∨ a = 4 by omega) with rfl | rfl | rfl | rfl | rfl
  · exact ⟨0, by decide, by decide⟩
  · exact ⟨1, by decide, by decide⟩
  · exact ⟨3, by decide, by decide⟩
  · exact ⟨7, by decide, by decide⟩
  · exact ⟨15, by decide, by decide⟩
theorem src_of {sc q : Int32} (h : ¬ f_X2_isSource sc q = 0) (hsc : ∃ n : Nat, n ≤ 4 ∧ sc = nI n) : ∃ n : Nat, n ≤ 4 ∧ q = nI n := by
  obtain ⟨a, ha, e⟩ := hsc
  unfold f_X2_isSource at h
  split at h
  · exact absurd rfl h
  · rename_i h1
    obtain ⟨k, hk, ek⟩ := nI_of h1
    subst e ek
    refine ⟨k, ?_, rfl⟩
    split at h
    · exact absurd rfl h
    · rename_i h2
      rcases Nat.lt_or_ge k a with q | q
      · omega
      · exact absurd (nI_le q (by omega)) h2
