theorem nI_S_ne {a : Nat} (h : a + 1 < 2 ^ 31) : ¬ nI (a + 1) = 0 := by
  intro e
  have q := congrArg Int32.toInt e
  rw [nI_toInt h, show (0 : Int32).toInt = 0 by decide] at q
  omega
theorem REL.up {N : Nat} {xrd xal : Int64} {xpl xsc xtc mpl msc mtc msr mal : Int32} {xpc xhd xwt mpg mam mwa mww mmb : Nat → Int32} (h : REL N xrd xal xpl xpc xsc xtc xhd xwt mpl msc mtc msr mal mpg mam mwa mww mmb) (hN : N + 1 < 1000) : REL (N + 1) xrd xal xpl xpc xsc xtc xhd xwt mpl msc mtc msr mal mpg mam mwa mww mmb := by
  obtain ⟨h1, h2, h3, h4, h5, h6, h7, h8, h9, h10, h11, h12⟩ := h
  exact ⟨h1, h2, h3, h4, h5, h6, h7, h8.mono (by omega), h9.mono (by omega), h10, h11, hN, h12.2⟩
theorem CT.inc {N : Nat} {x : Int64} {y : Int32} (h : CT N x y) : CT (N + 1) (x + 1) (y + 1) := by
  obtain ⟨n, h1, h2, h3⟩ := h
  exact ⟨n + 1, by omega, by rw [h2]; exact nI_1 n, by rw [h3]; exact lN_1 n⟩
theorem CT.l {N : Nat} {x : Int64} {y : Int32} (h : CT N x y) (hN : N < 1000) : x = y.toInt64 := by
  obtain ⟨n, h1, h2, h3⟩ := h
  rw [h2, h3, nI_l (by omega)]
theorem le_pred {a : Nat} {q : Int32} (ha : a ≤ 4) : (nI a ≤ q) ↔ (nI a - 1 < q) := by
  rw [Int32.le_iff_toInt_le, Int32.lt_iff_toInt_lt, nI_toInt (by omega), show (nI a - 1) = nI a - nI 1 from rfl, pk_sub_toInt (by omega) (by decide)]
  omega
theorem src_eq {sc q : Int32} (h : LE4 sc) : f_X2_isSource sc q = f_X7_isSource sc q := by
  obtain ⟨a, ha, rfl⟩ := h
  unfold f_X2_isSource f_X7_isSource f_X7_within
  simp only [le_pred ha]
theorem trc_eq {sc q : Int32} (h : LE4 sc) : f_X2_isTracer sc q = f_X7_isTracer sc q := by
  obtain ⟨a, ha, rfl⟩ := h
  unfold f_X2_isTracer f_X7_isTracer f_X7_within
  simp only [le_pred ha]
theorem used_eq {tc q : Int32} : f_X2_isUsed tc q = f_X7_isUsed tc q := rfl
theorem held_eq {q : Int32} : f_X6_isHeld q = f_X7_within q 0 20 := rfl
theorem L4_of_src {sc q : Int32} (hs : LE4 sc) (h : ¬ f_X7_isSource sc q = 0) : L4 q := trc_L4 h hs
theorem i10 : ¬ (1 : Int32) = 0 := by decide
theorem nle5 {a : Nat} (h : a < 5) : ¬ (5 : Int32) ≤ nI a := nI_ge (b := 5) h (by decide)
theorem nle4 {a : Nat} (h : a < 4) : ¬ (4 : Int32) ≤ nI a := nI_ge (b := 4) h (by decide)
theorem place_1 {a b : Nat} (ha : a < 5) (hb : b < 4) : f_X2_isPlace (nI a) (nI b) = 1 := by
  unfold f_X2_isPlace
  rw [if_neg (nI_pos (by omega)), if_neg (nle5 ha), if_neg (nI_pos (by omega)), if_neg (nle4 hb)]
theorem ix_lin {a b cn : Nat} (h : a * cn + b < 2 ^ 31) : (nI a * nI cn + nI b).toNatClampNeg = a * cn + b := by
  rw [pk_mul, nI_add, nI_clamp h]
theorem ix_lin2 {a b cn : Nat} (h : cn * a + b < 2 ^ 31) : (nI cn * nI a + nI b).toNatClampNeg = cn * a + b := by
  rw [pk_mul, nI_add, nI_clamp h]
theorem heldOf_at {hd : Nat → Int32} {a b : Nat} (ha : a < 5) (hb : b < 4) : f_X2_heldOf hd (nI a) (nI b) = hd (a * 4 + b) := by
  unfold f_X2_heldOf
  rw [place_1 ha hb, if_neg (by decide)]
  exact congrArg hd (ix_lin (cn := 4) (by omega))
theorem putHeld_at {hd : Nat → Int32} {a b : Nat} {v : Int32} (ha : a < 5) (hb : b < 4) : f_X2_putHeld hd (nI a) (nI b) v = upd hd (a * 4 + b) v := by
  unfold f_X2_putHeld
  rw [place_1 ha hb, if_neg (by decide)]
  exact congrArg (fun k => upd hd k v) (ix_lin (cn := 4) (by omega))
theorem weightOf_at {wt : Nat → Int32} {b : Nat} (hb : b < 4) : f_X2_weightOf wt (nI b) = wt b := by
  unfold f_X2_weightOf
  rw [if_neg (nI_pos (by omega)), if_neg (nle4 hb), nI_clamp (by omega)]
theorem putWeight_at {wt : Nat → Int32} {b : Nat} {v : Int32} (hb : b < 4) : f_X2_putWeight wt (nI b) v = upd wt b v := by
  unfold f_X2_putWeight
  rw [if_neg (nI_pos (by omega)), if_neg (nle4 hb), nI_clamp (by omega)]
theorem within_of {q lo hi : Int32} (h : ¬ f_X7_within q lo hi = 0) : ¬ q < lo ∧ ¬ hi < q := by
  unfold f_X7_within at h
  split at h
  · exact absurd rfl h
  · split at h
    · exact absurd rfl h
    · rename_i a b; exact ⟨a, b⟩
theorem rng_of {q : Int32} {lo hi : Nat} (hhi : hi < 2 ^ 30) (h : ¬ f_X7_within q (nI lo) (nI hi) = 0) (hlo : lo < 2 ^ 30) : ∃ n : Nat, lo ≤ n ∧ n ≤ hi ∧ q = nI n := by
  obtain ⟨h1, h2⟩ := within_of h
  rw [Int32.lt_iff_toInt_lt, nI_toInt (by omega)] at h1 h2
  have h3 : ¬ q < 0 := by rw [Int32.lt_iff_toInt_lt]; have : (0 : Int32).toInt = 0 := by decide
                          omega
  obtain ⟨n, hn, rfl⟩ := nI_of h3
  rw [nI_toInt hn] at h1 h2
  exact ⟨n, by omega, by omega, rfl⟩
theorem q_blank {N : Nat} (xrd : Int64) (xal : Int64) (xpl : Int32) (xpc : Nat → Int32) (xsc : Int32) (xtc : Int32) (xhd : Nat → Int32) (xwt : Nat → Int32) (mpl : Int32) (msc : Int32) (mtc : Int32) (msr : Int32) (mal : Int32) (mpg : Nat → Int32) (mam : Nat → Int32) (mwa : Nat → Int32) (mww : Nat → Int32) (mmb : Nat → Int32) (h : REL N xrd xal xpl xpc xsc xtc xhd xwt mpl msc mtc msr mal mpg mam mwa mww mmb) (hN : N + 1 < 1000) : (f_X6_blank xpl).1 = (f_X7_blank mpl).1 ∧ REL (N + 1) xrd xal ((f_X6_blank xpl).2) xpc xsc xtc xhd xwt ((f_X7_blank mpl).2) msc mtc msr mal mpg mam mwa mww mmb := by
  obtain ⟨h1, h2, h3, h4, h5, h6, h7, h8, h9, h10, h11, h12⟩ := h
  subst h2
  exact ⟨rfl, ⟨0, by decide, nI_0.symm⟩, rfl, h3, h4, h5, h6, h7, h8.mono (by omega), h9.mono (by omega), h10, h11, hN, h12.2⟩
theorem q_letter {N : Nat} (xrd : Int64) (xal : Int64) (xpl : Int32) (xpc : Nat → Int32) (xsc : Int32) (xtc : Int32) (xhd : Nat → Int32) (xwt : Nat → Int32) (mpl : Int32) (msc : Int32) (mtc : Int32) (msr : Int32) (mal : Int32) (mpg : Nat → Int32) (mam : Nat → Int32) (mwa : Nat → Int32) (mww : Nat → Int32) (mmb : Nat → Int32) (h : REL N xrd xal xpl xpc xsc xtc xhd xwt mpl msc mtc msr mal mpg mam mwa mww mmb) (hN : N + 1 < 1000) (q1 : Int32) : (f_X6_letter xpl xpc q1).1 = (f_X7_letter mpl mpg q1).1 ∧ REL (N + 1) xrd xal ((f_X6_letter xpl xpc q1).2.1) ((f_X6_letter xpl xpc q1).2.2) xsc xtc xhd xwt ((f_X7_letter mpl mpg q1).2.1) msc mtc msr mal ((f_X7_letter mpl mpg q1).2.2) mam mwa mww mmb := by
  have hup := h.up hN
  obtain ⟨⟨n, hn, rfl⟩, rfl, rfl, h4, h5, h6, h7, h8, h9, h10, h11, h12⟩ := h
  unfold f_X6_letter f_X7_letter f_X7_within f_X4_isFull f_X4_append
  by_cases c1 : q1 < 32
  · simp only [if_pos c1, if_true]
    exact ⟨trivial, hup⟩
  · by_cases c2 : q1 ≤ 126
    · have c3 : ¬ (126 : Int32) < q1 := by rw [Int32.le_iff_toInt_le] at c2; rw [Int32.lt_iff_toInt_lt]; omega
      rcases Nat.lt_or_ge n 47 with c4 | c4
      · have d1 : nI n < 47 := nI_lt (b := 47) c4 (by decide)
        have d2 : ¬ nI n = 47 := fun e => by have := (nI_eq (b := 47) (by omega) (by decide)).mp e; omega
        have d3 : ¬ nI n < 0 := nI_pos (by omega)
        have d4 : ¬ (47 : Int32) ≤ nI n := nI_ge (b := 47) c4 (by decide)
        simp only [if_neg c1, if_pos c2, if_neg c3, if_pos d1, if_neg d2, if_neg d3, if_neg d4, if_true, if_neg i10]
        exact ⟨trivial, ⟨n + 1, by omega, nI_1 n⟩, rfl, rfl, h4, h5, h6, h7, h8.mono (by omega), h9.mono (by omega), h10, h11, hN, h12.2⟩
      · have e : n = 47 := by omega
        subst e
        simp only [if_neg c1, if_pos c2, if_neg c3, if_neg (show ¬ nI 47 < 47 by decide), if_pos (show nI 47 = 47 by decide), if_neg i10]
        exact ⟨trivial, hup⟩
    · have c3 : (126 : Int32) < q1 := by rw [Int32.le_iff_toInt_le] at c2; rw [Int32.lt_iff_toInt_lt]; omega
      simp only [if_neg c1, if_neg c2, if_pos c3, if_true]
      exact ⟨trivial, hup⟩
theorem q_count {N : Nat} (xrd : Int64) (xal : Int64) (xpl : Int32) (xpc : Nat → Int32) (xsc : Int32) (xtc : Int32) (xhd : Nat → Int32) (xwt : Nat → Int32) (mpl : Int32) (msc : Int32) (mtc : Int32) (msr : Int32) (mal : Int32) (mpg : Nat → Int32) (mam : Nat → Int32) (mwa : Nat → Int32) (mww : Nat → Int32) (mmb : Nat → Int32) (h : REL N xrd xal xpl xpc xsc xtc xhd xwt mpl msc mtc msr mal mpg mam mwa mww mmb) (hN : N + 1 < 1000) (q1 : Int32) : (f_X6_count xrd xal xpl xsc xtc q1) = (f_X7_count mpl msc mtc msr mal q1) ∧ REL (N + 1) xrd xal xpl xpc xsc xtc xhd xwt mpl msc mtc msr mal mpg mam mwa mww mmb := by
  refine ⟨?_, h.up hN⟩
  obtain ⟨h1, rfl, h3, rfl, rfl, h6, h7, h8, h9, h10, h11, h12⟩ := h
  unfold f_X6_count f_X7_count f_X7_howMany
  rw [h8.l h12.1, h9.l h12.1]
