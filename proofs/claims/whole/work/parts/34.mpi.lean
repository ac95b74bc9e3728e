theorem nI_succ_lt {b : Nat} {c : Int32} {n : Nat} (hb : b < 4) (hn : n ≤ 4) (hc : c = nI n) (h : ¬ c ≤ nI b + 1) : b + 1 < n := by
  rw [nI_1, hc] at h
  rcases Nat.lt_or_ge (b + 1) n with q | q
  · exact q
  · exact absurd (nI_le q (by omega)) h
theorem PI_comma1 {a b c : Int32} (h : PI a b c) (hc : ¬ 4 ≤ b + 1) : PI a (b + 1) c := by
  obtain ⟨h1, ⟨k, hk, rfl⟩, h3⟩ := h
  exact ⟨h1, ⟨k + 1, nI_succ_lt hk (Nat.le_refl 4) (by decide) hc, nI_1 k⟩, h3⟩
theorem PI_comma2 {a b c : Int32} (h : PI a b c) (hc : ¬ c ≤ b + 1) : PI a (b + 1) c := by
  obtain ⟨h1, ⟨k, hk, rfl⟩, ⟨n, hn, rfl⟩⟩ := h
  exact ⟨h1, ⟨k + 1, by have := nI_succ_lt hk hn rfl hc; omega, nI_1 k⟩, ⟨n, hn, rfl⟩⟩
theorem PI_semi {a b c : Int32} (h : PI a b c) (hc : ¬ 4 ≤ a + 1) : PI (a + 1) 0 (b + 1) := by
  obtain ⟨⟨k, hk, rfl⟩, ⟨j, hj, rfl⟩, h3⟩ := h
  exact ⟨⟨k + 1, nI_succ_lt hk (Nat.le_refl 4) (by decide) hc, nI_1 k⟩, ⟨0, by decide, by decide⟩, ⟨j + 1, by omega, nI_1 j⟩⟩
theorem takes_PI {a b c d e q : Int32} {f : Nat → Int32} (h : PI a b c) : PI (f_X7_takes a b c d e f q).2.1 (f_X7_takes a b c d e f q).2.2.1 (f_X7_takes a b c d e f q).2.2.2.1 := by
  unfold f_X7_takes f_X7_endNumber
  dsimp only
  repeat' (first | exact h | exact PI_comma1 h (by assumption) | exact PI_comma2 h (by assumption) | exact PI_semi h (by assumption) | split)
