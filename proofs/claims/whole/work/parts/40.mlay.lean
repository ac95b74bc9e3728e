theorem vi_00 : vp_in 0 4 := by have := vp_in_nI (n := 0) (N := 4) (by decide) (by decide); exact this
theorem L3_0 : L3 0 := ⟨0, by decide, by decide⟩
theorem L3_1 : L3 1 := ⟨1, by decide, by decide⟩
theorem L3_2 : L3 2 := ⟨2, by decide, by decide⟩
theorem rem3a {i : Int32} {k : Nat} (hk : i = nI k) (h : k < 3) : L3 (i + 1 - (i + 1) / 3 * 3) := by
  subst hk
  rcases (show k = 0 ∨ k = 1 ∨ k = 2 by omega) with rfl | rfl | rfl
  · exact ⟨1, by decide, by decide⟩
  · exact ⟨2, by decide, by decide⟩
  · exact ⟨0, by decide, by decide⟩
theorem rem3b {i : Int32} {k : Nat} (hk : i = nI k) (h : k < 3) : L3 (i + 2 - (i + 2) / 3 * 3) := by
  subst hk
  rcases (show k = 0 ∨ k = 1 ∨ k = 2 by omega) with rfl | rfl | rfl
  · exact ⟨2, by decide, by decide⟩
  · exact ⟨0, by decide, by decide⟩
  · exact ⟨1, by decide, by decide⟩
theorem my_keep {m : Int32} {k : Nat} (h : ∃ n : Nat, n ≤ k ∧ m = nI n) : ∃ n : Nat, n ≤ k + 1 ∧ m = nI n := by
  obtain ⟨n, h1, h2⟩ := h
  exact ⟨n, by omega, h2⟩
theorem my_inc {m : Int32} {k : Nat} (h : ∃ n : Nat, n ≤ k ∧ m = nI n) : ∃ n : Nat, n ≤ k + 1 ∧ m + 1 = nI n := by
  obtain ⟨n, h1, h2⟩ := h
  exact ⟨n + 1, by omega, by rw [h2]; exact nI_1 n⟩
theorem MB_upd {f : Nat → Int32} {k : Nat} {x : Int32} (h : MB f) (hx : L4 x) : MB (upd f k x) := by
  intro j
  unfold upd
  split
  · exact hx
  · exact h j
theorem sub_of {m i : Int32} {k : Nat} (hm : LE4 m) (hk : i = nI k) (hk3 : k ≤ 3) (c : ¬ m ≤ i + 1) : k < 3 := by
  obtain ⟨n, hn, rfl⟩ := hm
  subst hk
  rw [nI_1] at c
  rcases Nat.lt_or_ge (k + 1) n with q | q
  · omega
  · exact absurd (nI_le q (by omega)) c
theorem vi_p1 {i : Int32} {k : Nat} (hk : i = nI k) (h : k < 3) : vp_in (i + 1) 4 := by
  rw [hk, nI_1]
  exact vp_in_nI (by omega) (by decide)
