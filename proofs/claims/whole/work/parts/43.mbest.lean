theorem laySet_facts {msc mtc : Int32} {mam mwa mww mmb : Nat → Int32} {msh mpa mgo : Nat → Int64} {st us : Int32} (hms : LE4 msc) (hmb : MB mmb) : LE4 (f_X7_laySet msc mtc mam mwa mww mmb msh mpa mgo st us).1 ∧ MB (f_X7_laySet msc mtc mam mwa mww mmb msh mpa mgo st us).2.2.2.1 := by
  obtain ⟨n, hn, rfl⟩ := hms
  unfold f_X7_laySet
  exact layL_facts hn 5 0 _ _ _ _ nI_0.symm (Nat.zero_le _) ⟨0, Nat.le_refl 0, nI_0.symm⟩ hmb
def HPOSd (msc mtc : Int32) (mam mwa mww : Nat → Int32) : Prop := ∀ (mmb : Nat → Int32) (msh mpa mgo : Nat → Int64) (st us : Int32), MB mmb → 0 < (f_X7_laySet msc mtc mam mwa mww mmb msh mpa mgo st us).2.1 → 0 ≤ (f_X7_laySet msc mtc mam mwa mww mmb msh mpa mgo st us).2.2.1
theorem isgL_0 {mmy : Int32} {mmb : Nat → Int32} {msh : Nat → Int64} : ∀ (n : Nat) (i : Int32), (L_X7_isGood_17 mmy mmb msh n 0 i).1 = 0 := by
  intro n
  induction n with
  | zero => intro i; rfl
  | succ n ih =>
    intro i
    rw [L_X7_isGood_17]
    split
    · rfl
    · dsimp only
      rw [if_pos rfl]
      exact ih _
theorem good_pos {mmy : Int32} {mbe : Int64} {mmb : Nat → Int32} {msh : Nat → Int64} (h : ¬ f_X7_isGood mmy mbe mmb msh = 0) : 0 < mbe := by
  unfold f_X7_isGood at h
  dsimp only at h
  by_cases c : mbe ≤ 0
  · rw [if_pos c] at h
    exact absurd (isgL_0 _ _) h
  · rw [Int64.lt_iff_toInt_lt]
    rw [Int64.le_iff_toInt_le] at c
    omega
theorem bits_of {sc : Int32} {a : Nat} (ha : a ≤ 4) (e : sc = nI a) : ∃ n : Nat, n ≤ 16 ∧ 1 ≤ n ∧ 1 <<< (sc &&& 31) = nI n := by
  subst e
  rcases (show a = 0 ∨ a = 1 ∨ a = 2 ∨ a = 3 ∨ a = 4 by omega) with rfl | rfl | rfl | rfl | rfl
  · exact ⟨1, by decide, by decide, by decide⟩
  · exact ⟨2, by decide, by decide, by decide⟩
  · exact ⟨4, by decide, by decide, by decide⟩
  · exact ⟨8, by decide, by decide, by decide⟩
  · exact ⟨16, by decide, by decide, by decide⟩
