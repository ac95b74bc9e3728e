theorem fi_pos {fi : Int32} (h : fi = 1 ∨ fi = 2) : ¬ fi ≤ 0 := by rcases h with rfl | rfl <;> decide
theorem lim_eq {a c : Nat} (hc : c ≤ 4) (hac : a = 0 ↔ c = 0) (ha : a < 4) : (if nI a = 0 then (4 : Int32) else nI c) = nI (if a = 0 then 4 else c) ∧ (if nI c = 0 then (4 : Int32) else nI c) = nI (if a = 0 then 4 else c) := by
  by_cases h : a = 0
  · have h2 := hac.mp h
    subst h h2
    exact ⟨by decide, by decide⟩
  · have h2 : ¬ c = 0 := fun q => h (hac.mpr q)
    rw [if_neg (nI_ne0 (by omega) (by omega)), if_neg (nI_ne0 (by omega) (by omega)), if_neg h]
    exact ⟨rfl, rfl⟩
theorem within_44 : f_X7_within 44 48 57 = 0 := by decide
theorem within_59 : f_X7_within 59 48 57 = 0 := by decide
theorem takes_comma {a b c : Nat} {nu fi nw : Int32} {dr na : Nat → Int32} (ha : a < 4) (hb : b < 4) (hc : c ≤ 4) (hac : a = 0 ↔ c = 0) (hnum : NUM nu fi nw) :
    ((f_X5_takes (nI a) (nI b) (nI c) nu dr 44).1 = 0 ∧ (f_X7_takes (nI a) (nI b) (nI c) fi nw na 44).1 = 0) ∨ ∃ n : Nat, n ≤ 20 ∧ b + 1 < (if a = 0 then 4 else c) ∧ f_X5_takes (nI a) (nI b) (nI c) nu dr 44 = (1, nI a, nI (b + 1), nI c, -1, upd dr (a * 4 + b) (nI n)) ∧ f_X7_takes (nI a) (nI b) (nI c) fi nw na 44 = (1, nI a, nI (b + 1), nI c, 0, 0, upd na (a * 4 + b) (nI n)) := by
  obtain ⟨l1, l2⟩ := lim_eq hc hac ha
  have hlim : (if a = 0 then 4 else c) ≤ 4 := by split <;> omega
  generalize (if a = 0 then 4 else c) = lim at l1 l2 hlim ⊢
  have n44 : ¬ (44 : Int32) = 59 := by decide
  unfold f_X5_takes f_X7_takes f_X5_takesComma
  rw [if_pos rfl, if_pos within_44]
  simp only [if_true, if_neg n44, l1, l2, keep_at ha hb, endN_at ha hb, nI_1]
  rcases hnum with ⟨rfl, rfl, rfl⟩ | ⟨n, hn, rfl, rfl, hf⟩
  · left
    rw [if_pos rfl, if_pos (show (0 : Int32) ≤ 0 by decide)]
    exact ⟨rfl, rfl⟩
  · have hfi : ¬ fi ≤ 0 := fi_pos (hf.imp And.left And.left)
    rw [if_neg (nIm1 (by omega)), if_neg hfi]
    rcases Nat.lt_or_ge (b + 1) lim with g | g
    · right
      rw [if_pos (nI_lt g (by omega)), if_neg (nI_ge g (by omega))]
      exact ⟨n, hn, g, rfl, rfl⟩
    · left
      rw [if_neg (nI_nlt g (by omega)), if_pos (nI_le g (by omega))]
      exact ⟨rfl, rfl⟩
theorem last_eq {a b c : Nat} (ha : a < 4) (hb : b < 4) (hc : c ≤ 4) (hac : a = 0 ↔ c = 0) : f_X5_isLastTracer (nI a) (nI b) (nI c) = (if a = 0 ∨ b + 1 = c then 1 else 0) ∧ (if nI c = 0 then (1 : Int32) else (if nI b + 1 = nI c then 1 else 0)) = (if a = 0 ∨ b + 1 = c then 1 else 0) := by
  unfold f_X5_isLastTracer
  rw [nI_1]
  by_cases h : a = 0
  · have h2 := hac.mp h
    subst h h2
    rw [if_pos (show nI 0 = 0 by decide), if_pos (Or.inl rfl)]
    exact ⟨rfl, rfl⟩
  · have h2 : ¬ c = 0 := fun q => h (hac.mpr q)
    rw [if_neg (nI_ne0 (by omega) (by omega)), if_neg (nI_ne0 (by omega) (by omega))]
    by_cases g : b + 1 = c
    · rw [if_pos (Or.inr g), g]
      exact ⟨by rw [if_pos rfl], by rw [if_pos rfl]⟩
    · rw [if_neg (fun q => g ((nI_eq (by omega) (by omega)).mp q)), if_neg (fun q => q.elim h g)]
      exact ⟨rfl, rfl⟩
theorem takes_semi {a b c : Nat} {nu fi nw : Int32} {dr na : Nat → Int32} (ha : a < 4) (hb : b < 4) (hc : c ≤ 4) (hac : a = 0 ↔ c = 0) (hnum : NUM nu fi nw) :
    ((f_X5_takes (nI a) (nI b) (nI c) nu dr 59).1 = 0 ∧ (f_X7_takes (nI a) (nI b) (nI c) fi nw na 59).1 = 0) ∨ ∃ n : Nat, n ≤ 20 ∧ a + 1 < 4 ∧ (a = 0 ∨ b + 1 = c) ∧ f_X5_takes (nI a) (nI b) (nI c) nu dr 59 = (1, nI (a + 1), 0, nI (b + 1), -1, upd dr (a * 4 + b) (nI n)) ∧ f_X7_takes (nI a) (nI b) (nI c) fi nw na 59 = (1, nI (a + 1), 0, nI (b + 1), 0, 0, upd na (a * 4 + b) (nI n)) := by
  obtain ⟨l1, l2⟩ := last_eq ha hb hc hac
  have n59 : ¬ (59 : Int32) = 44 := by decide
  unfold f_X5_takes f_X7_takes f_X5_takesSemicolon
  rw [if_neg n59, if_pos rfl, if_pos within_59]
  simp only [if_true, if_neg n59, l1, l2, keep_at ha hb, endN_at ha hb]
  rcases hnum with ⟨rfl, rfl, rfl⟩ | ⟨n, hn, rfl, rfl, hf⟩
  · left
    rw [if_pos rfl, if_pos (show (0 : Int32) ≤ 0 by decide), if_pos rfl]
    exact ⟨rfl, rfl⟩
  · have hfi : ¬ fi ≤ 0 := fi_pos (hf.imp And.left And.left)
    rw [if_neg (nIm1 (by omega)), if_neg hfi]
    by_cases g : a = 0 ∨ b + 1 = c
    · simp only [if_pos g, if_neg i10, nI_1]
      rcases Nat.lt_or_ge (a + 1) 4 with g2 | g2
      · right
        rw [if_pos (show nI (a + 1) < 4 from nI_lt (b := 4) g2 (by decide)), if_neg (nle4 g2)]
        exact ⟨n, hn, g2, g, rfl, rfl⟩
      · left
        rw [if_neg (show ¬ nI (a + 1) < 4 from nI_nlt (b := 4) g2 (by omega)), if_pos (show (4 : Int32) ≤ nI (a + 1) from nI_le (a := 4) g2 (by omega))]
        exact ⟨rfl, rfl⟩
    · left
      simp only [if_neg g, if_true]
      exact ⟨trivial, trivial⟩
theorem takes_sim {so tr wi nu ns nn nt fi nw q : Int32} {dr na : Nat → Int32} (h : SIM so tr wi nu dr ns nn nt fi nw na) :
    ((f_X5_takes so tr wi nu dr q).1 = 0 ∧ (f_X7_takes ns nn nt fi nw na q).1 = 0) ∨ (¬ (f_X5_takes so tr wi nu dr q).1 = 0 ∧ ¬ (f_X7_takes ns nn nt fi nw na q).1 = 0 ∧ SIM (f_X5_takes so tr wi nu dr q).2.1 (f_X5_takes so tr wi nu dr q).2.2.1 (f_X5_takes so tr wi nu dr q).2.2.2.1 (f_X5_takes so tr wi nu dr q).2.2.2.2.1 (f_X5_takes so tr wi nu dr q).2.2.2.2.2 (f_X7_takes ns nn nt fi nw na q).2.1 (f_X7_takes ns nn nt fi nw na q).2.2.1 (f_X7_takes ns nn nt fi nw na q).2.2.2.1 (f_X7_takes ns nn nt fi nw na q).2.2.2.2.1 (f_X7_takes ns nn nt fi nw na q).2.2.2.2.2.1 (f_X7_takes ns nn nt fi nw na q).2.2.2.2.2.2) := by
  obtain ⟨a, b, c, ha, hb, hc, hac, hbc, rfl, rfl, rfl, rfl, rfl, rfl, hnum, hdr⟩ := h
  by_cases c44 : q = 44
  · subst c44
    rcases takes_comma (dr := dr) (na := na) ha hb hc hac hnum with h | ⟨n, hn, hl, e1, e2⟩
    · exact Or.inl h
    · right
      rw [e1, e2]
      refine ⟨i10, i10, a, b + 1, c, ha, ?_, hc, hac, ?_, rfl, rfl, rfl, rfl, rfl, rfl, Or.inl ⟨rfl, rfl, rfl⟩, DR_put ha hb hn hdr⟩
      · split at hl <;> omega
      · split at hl <;> omega
  · by_cases c59 : q = 59
    · subst c59
      rcases takes_semi (dr := dr) (na := na) ha hb hc hac hnum with h | ⟨n, hn, hl, hg, e1, e2⟩
      · exact Or.inl h
      · right
        rw [e1, e2]
        refine ⟨i10, i10, a + 1, 0, b + 1, hl, by omega, by omega, by omega, Or.inr (by omega), rfl, nI_0.symm, rfl, rfl, nI_0.symm, rfl, Or.inl ⟨rfl, rfl, rfl⟩, DR_semi ha hb (by omega) (DR_put ha hb hn hdr)⟩
    · by_cases cd : f_X7_within q 48 57 = 0
      · exact Or.inl (takes_other cd c44 c59)
      · obtain ⟨m, hm1, hm2, rfl⟩ := rng_of (lo := 48) (hi := 57) (by decide) cd (by decide)
        have hd := takes_digit (a := a) (b := b) (c := c) (d := m - 48) (dr := dr) (na := na) (by omega) hnum
        rw [show 48 + (m - 48) = m by omega] at hd
        rcases hd with h | ⟨nu', fi', nw', hn', e1, e2⟩
        · exact Or.inl h
        · right
          rw [e1, e2]
          exact ⟨i10, i10, a, b, c, ha, hb, hc, hac, hbc, rfl, rfl, rfl, rfl, rfl, rfl, hn', hdr⟩
