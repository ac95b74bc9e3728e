theorem best_same {xna xnb : Int64} {xfs xba : Int32} {xbe : Int64} {xpr xmx xsd xpt : Nat → Int64} {xfa xfb : Int64} {mmy : Int32} {mbe mmf : Int64} {msh mpa mgo : Nat → Int64} {hd wt am wa ww mmb : Nat → Int32} {us : Int32} {n b : Nat} (hE : ENV b hd wt am wa ww) (h1 : 1 ≤ n) (hn : n ≤ 4) (hMB : MB mmb) : ∃ bs : Nat, SAME n hd wt us xpr bs (f_X3_find xna xnb xfs xba xbe xpr xmx xsd xpt xfa xfb (nI n) hd wt us) (f_X7_layBest (nI n) (nI b) mmy mbe mmf am wa ww mmb msh mpa mgo us) := best_sim hE h1 hn hMB
theorem src_lt {sc q : Int32} (h : ¬ f_X2_isSource sc q = 0) : ¬ q < 0 ∧ ¬ sc ≤ q := by
  unfold f_X2_isSource at h
  split at h
  · exact absurd rfl h
  · split at h
    · exact absurd rfl h
    · rename_i a b; exact ⟨a, b⟩
theorem src_n {n : Nat} {q : Int32} (hn : n ≤ 4) (h : ¬ f_X2_isSource (nI n) q = 0) : ∃ s : Nat, s < n ∧ q = nI s := by
  obtain ⟨h1, h2⟩ := src_lt h
  exact rg_of h1 h2 (nI_toInt (by omega)) (by omega)
theorem trc_n {n : Nat} {q : Int32} (hn : n ≤ 4) (h : ¬ f_X2_isTracer (nI n) q = 0) : ∃ s : Nat, s < n ∧ q = nI s := by
  obtain ⟨h1, h2⟩ := trc_lt h
  exact rg_of h1 h2 (nI_toInt (by omega)) (by omega)
theorem part_eq {q : Int32} : f_X6_isPart q = f_X7_within q 0 1 := by
  unfold f_X6_isPart f_X7_within
  by_cases c : q < 0
  · rw [if_pos c, if_neg (fun e => by rw [e] at c; exact absurd c (by decide)), if_neg (fun e => by rw [e] at c; exact absurd c (by decide))]
  · rw [if_neg c]
    by_cases c0 : q = 0
    · rw [if_pos c0, if_neg (by rw [c0]; decide)]
    · rw [if_neg c0]
      by_cases c1 : q = 1
      · rw [if_pos c1, if_neg (by rw [c1]; decide)]
      · rw [if_neg c1, if_pos]
        rw [Int32.lt_iff_toInt_lt] at c ⊢
        have e0 : ¬ q.toInt = (0 : Int32).toInt := fun e => c0 (Int32.toInt_inj.mp e)
        have e1 : ¬ q.toInt = (1 : Int32).toInt := fun e => c1 (Int32.toInt_inj.mp e)
        have f0 : (0 : Int32).toInt = 0 := by decide
        have f1 : (1 : Int32).toInt = 1 := by decide
        rw [f0] at e0 c
        rw [f1] at e1 ⊢
        omega
theorem le_n {q : Int32} {k : Nat} (h0 : ¬ q < 0) (h1 : q ≤ nI k) (hk : k < 2 ^ 30) : ∃ j : Nat, j ≤ k ∧ q = nI j := by
  obtain ⟨j, hj, e⟩ := rg_of (B := nI (k + 1)) (n := k + 1) h0 (by
    rw [Int32.le_iff_toInt_le, nI_toInt (by omega)]
    rw [Int32.le_iff_toInt_le, nI_toInt (by omega)] at h1
    omega) (nI_toInt (by omega)) (by omega)
  exact ⟨j, by omega, e⟩
theorem not_le_lt {a b : Int32} : ¬ a ≤ b ↔ b < a := Int32.not_le
theorem q_best {N : Nat} (xrd : Int64) (xal : Int64) (xpl : Int32) (xpc : Nat → Int32) (xns : Int32) (xnc : Int32) (xna : Int64) (xnb : Int64) (xfs : Int32) (xba : Int32) (xbe : Int64) (xpr : Nat → Int64) (xmx : Nat → Int64) (xsd : Nat → Int64) (xpt : Nat → Int64) (xfa : Int64) (xfb : Int64) (xsc : Int32) (xtc : Int32) (xhd : Nat → Int32) (xwt : Nat → Int32) (mpl : Int32) (msc : Int32) (mtc : Int32) (msr : Int32) (mal : Int32) (mmy : Int32) (mbe : Int64) (mmf : Int64) (mbs : Int32) (mco : Int32) (mpg : Nat → Int32) (mam : Nat → Int32) (mwa : Nat → Int32) (mww : Nat → Int32) (mmb : Nat → Int32) (msh : Nat → Int64) (mpa : Nat → Int64) (mgo : Nat → Int64) (h : REL N xrd xal xpl xpc xsc xtc xhd xwt mpl msc mtc msr mal mpg mam mwa mww mmb) (hN : N + 1 < 1000) (q1 : Int32) (q2 : Int32) : (f_X6_best xns xnc xna xnb xfs xba xbe xpr xmx xsd xpt xfa xfb xsc xtc xhd xwt q1 q2).1 = (f_X7_best msc mtc mmy mbe mmf mbs mco mam mwa mww mmb msh mpa mgo q1 q2).1 ∧ REL (N + 1) xrd xal xpl xpc xsc xtc xhd xwt mpl msc mtc msr mal mpg mam mwa mww ((f_X7_best msc mtc mmy mbe mmf mbs mco mam mwa mww mmb msh mpa mgo q1 q2).2.2.2.2.2.2.1) := by
  have hup := h.up hN
  obtain ⟨h1, h2, h3, rfl, rfl, h6, h7, h8, h9, h10, hST, h12⟩ := h
  unfold f_X6_best f_X7_best
  rw [used_eq]
  by_cases c1 : xsc = 0
  · rw [if_pos c1, if_pos c1]
    exact ⟨rfl, hup⟩
  · rw [if_neg c1, if_neg c1]
    by_cases c2 : f_X7_isUsed xtc q1 = 0
    · rw [if_pos c2, if_pos c2]
      exact ⟨rfl, hup⟩
    · rw [if_neg c2, if_neg c2]
      unfold f_X7_within
      by_cases c3 : q2 < 0
      · rw [if_pos c3, if_pos c3, if_pos rfl]
        exact ⟨rfl, hup⟩
      · rw [if_neg c3, if_neg c3]
        by_cases c4 : q2 ≤ 3
        · rw [if_pos c4, if_neg (show ¬ (3 : Int32) < q2 from fun q => absurd c4 (not_le_lt.mpr q)), if_neg i10]
          dsimp only
          obtain ⟨n, hn, rfl⟩ := h6
          obtain ⟨b, hb, rfl⟩ := h7
          have hn1 : 1 ≤ n := by
            rcases Nat.eq_zero_or_pos n with q | q
            · exact absurd (by rw [q]; rfl) c1
            · exact q
          obtain ⟨k, hk, rfl⟩ := le_n (k := 3) c3 c4 (by decide)
          obtain ⟨bs, hS⟩ := best_same (xna := xna) (xnb := xnb) (xfs := xfs) (xba := xba) (xbe := xbe) (xpr := xpr) (xmx := xmx) (xsd := xsd) (xpt := xpt) (xfa := xfa) (xfb := xfb) (mmy := mmy) (mbe := mbe) (mmf := mmf) (msh := msh) (mpa := mpa) (mgo := mgo) (us := q1) (env_of hb hST) hn1 hn h10
          exact ⟨ofN_at (b := b) hS (by omega), hup.mmb (layBest_MB ⟨n, hn, rfl⟩ h10)⟩
        · rw [if_neg c4, if_pos (show (3 : Int32) < q2 from not_le_lt.mp c4), if_pos rfl]
          exact ⟨rfl, hup⟩

theorem q_share {N : Nat} (xrd : Int64) (xal : Int64) (xta : Int64) (xtb : Int64) (xpl : Int32) (xpc : Nat → Int32) (xns : Int32) (xnc : Int32) (xna : Int64) (xnb : Int64) (xfs : Int32) (xba : Int32) (xbe : Int64) (xpr : Nat → Int64) (xmx : Nat → Int64) (xsd : Nat → Int64) (xpt : Nat → Int64) (xfa : Int64) (xfb : Int64) (xsc : Int32) (xtc : Int32) (xhd : Nat → Int32) (xwt : Nat → Int32) (mpl : Int32) (msc : Int32) (mtc : Int32) (msr : Int32) (mal : Int32) (mmy : Int32) (mbe : Int64) (mmf : Int64) (mbs : Int32) (mco : Int32) (mpg : Nat → Int32) (mam : Nat → Int32) (mwa : Nat → Int32) (mww : Nat → Int32) (mmb : Nat → Int32) (msh : Nat → Int64) (mpa : Nat → Int64) (mgo : Nat → Int64) (h : REL N xrd xal xpl xpc xsc xtc xhd xwt mpl msc mtc msr mal mpg mam mwa mww mmb) (hN : N + 1 < 1000) (q1 : Int32) (q2 : Int32) (q3 : Int32) : (f_X6_share xta xtb xns xnc xna xnb xfs xba xbe xpr xmx xsd xpt xfa xfb xsc xtc xhd xwt q1 q2 q3).1 = (f_X7_share msc mtc mmy mbe mmf mbs mco mam mwa mww mmb msh mpa mgo q1 q2 q3).1 ∧ REL (N + 1) xrd xal xpl xpc xsc xtc xhd xwt mpl msc mtc msr mal mpg mam mwa mww ((f_X7_share msc mtc mmy mbe mmf mbs mco mam mwa mww mmb msh mpa mgo q1 q2 q3).2.2.2.2.2.2.1) := by
  have hup := h.up hN
  obtain ⟨h1, h2, h3, rfl, rfl, h6, h7, h8, h9, h10, hST, h12⟩ := h
  unfold f_X6_share f_X7_share
  rw [used_eq, part_eq, src_eq h6]
  by_cases c1 : f_X7_isSource xsc q1 = 0
  · rw [if_pos c1, if_pos c1]
    exact ⟨rfl, hup⟩
  · rw [if_neg c1, if_neg c1]
    by_cases c2 : f_X7_isUsed xtc q2 = 0
    · rw [if_pos c2, if_pos c2]
      exact ⟨rfl, hup⟩
    · rw [if_neg c2, if_neg c2]
      by_cases c3 : f_X7_within q3 0 1 = 0
      · rw [if_pos c3, if_pos c3]
        exact ⟨rfl, hup⟩
      · rw [if_neg c3, if_neg c3]
        dsimp only
        rw [← src_eq h6] at c1
        obtain ⟨n, hn, rfl⟩ := h6
        obtain ⟨b, hb, rfl⟩ := h7
        obtain ⟨s, hs, rfl⟩ := src_n hn c1
        have hn1 : 1 ≤ n := by omega
        obtain ⟨bs, hS⟩ := best_same (xna := xna) (xnb := xnb) (xfs := xfs) (xba := xba) (xbe := xbe) (xpr := xpr) (xmx := xmx) (xsd := xsd) (xpt := xpt) (xfa := xfa) (xfb := xfb) (mmy := mmy) (mbe := mbe) (mmf := mmf) (msh := msh) (mpa := mpa) (mgo := mgo) (us := q2) (env_of hb hST) hn1 hn h10
        exact ⟨share_at (env_of hb hST) hn hS hs q3, hup.mmb (layBest_MB ⟨n, hn, rfl⟩ h10)⟩

theorem q_press {N : Nat} (xrd : Int64) (xal : Int64) (xta : Int64) (xtb : Int64) (xpl : Int32) (xpc : Nat → Int32) (xns : Int32) (xnc : Int32) (xna : Int64) (xnb : Int64) (xfs : Int32) (xba : Int32) (xbe : Int64) (xpr : Nat → Int64) (xmx : Nat → Int64) (xsd : Nat → Int64) (xpt : Nat → Int64) (xfa : Int64) (xfb : Int64) (xsc : Int32) (xtc : Int32) (xhd : Nat → Int32) (xwt : Nat → Int32) (mpl : Int32) (msc : Int32) (mtc : Int32) (msr : Int32) (mal : Int32) (mmy : Int32) (mbe : Int64) (mmf : Int64) (mbs : Int32) (mco : Int32) (mpg : Nat → Int32) (mam : Nat → Int32) (mwa : Nat → Int32) (mww : Nat → Int32) (mmb : Nat → Int32) (msh : Nat → Int64) (mpa : Nat → Int64) (mgo : Nat → Int64) (h : REL N xrd xal xpl xpc xsc xtc xhd xwt mpl msc mtc msr mal mpg mam mwa mww mmb) (hN : N + 1 < 1000) (q1 : Int32) (q2 : Int32) (q3 : Int32) : (f_X6_press xta xtb xns xnc xna xnb xfs xba xbe xpr xmx xsd xpt xfa xfb xsc xtc xhd xwt q1 q2 q3).1 = (f_X7_press msc mtc mmy mbe mmf mbs mco mam mwa mww mmb msh mpa mgo q1 q2 q3).1 ∧ REL (N + 1) xrd xal xpl xpc xsc xtc xhd xwt mpl msc mtc msr mal mpg mam mwa mww ((f_X7_press msc mtc mmy mbe mmf mbs mco mam mwa mww mmb msh mpa mgo q1 q2 q3).2.2.2.2.2.2.1) := by
  have hup := h.up hN
  obtain ⟨h1, h2, h3, rfl, rfl, h6, h7, h8, h9, h10, hST, h12⟩ := h
  unfold f_X6_press f_X7_press
  rw [used_eq, part_eq, src_eq h6]
  by_cases c1 : f_X7_isSource xsc q1 = 0
  · rw [if_pos c1, if_pos c1]
    exact ⟨rfl, hup⟩
  · rw [if_neg c1, if_neg c1]
    by_cases c2 : f_X7_isUsed xtc q2 = 0
    · rw [if_pos c2, if_pos c2]
      exact ⟨rfl, hup⟩
    · rw [if_neg c2, if_neg c2]
      by_cases c3 : f_X7_within q3 0 1 = 0
      · rw [if_pos c3, if_pos c3]
        exact ⟨rfl, hup⟩
      · rw [if_neg c3, if_neg c3]
        dsimp only
        rw [← src_eq h6] at c1
        obtain ⟨n, hn, rfl⟩ := h6
        obtain ⟨b, hb, rfl⟩ := h7
        obtain ⟨s, hs, rfl⟩ := src_n hn c1
        have hn1 : 1 ≤ n := by omega
        obtain ⟨bs, hS⟩ := best_same (xna := xna) (xnb := xnb) (xfs := xfs) (xba := xba) (xbe := xbe) (xpr := xpr) (xmx := xmx) (xsd := xsd) (xpt := xpt) (xfa := xfa) (xfb := xfb) (mmy := mmy) (mbe := mbe) (mmf := mmf) (msh := msh) (mpa := mpa) (mgo := mgo) (us := q2) (env_of hb hST) hn1 hn h10
        exact ⟨press_at (env_of hb hST) hn hS (by omega) q3, hup.mmb (layBest_MB ⟨n, hn, rfl⟩ h10)⟩

theorem q_mixed {N : Nat} (xrd : Int64) (xal : Int64) (xta : Int64) (xtb : Int64) (xpl : Int32) (xpc : Nat → Int32) (xns : Int32) (xnc : Int32) (xna : Int64) (xnb : Int64) (xfs : Int32) (xba : Int32) (xbe : Int64) (xpr : Nat → Int64) (xmx : Nat → Int64) (xsd : Nat → Int64) (xpt : Nat → Int64) (xfa : Int64) (xfb : Int64) (xsc : Int32) (xtc : Int32) (xhd : Nat → Int32) (xwt : Nat → Int32) (mpl : Int32) (msc : Int32) (mtc : Int32) (msr : Int32) (mal : Int32) (mmy : Int32) (mbe : Int64) (mmf : Int64) (mbs : Int32) (mco : Int32) (mpg : Nat → Int32) (mam : Nat → Int32) (mwa : Nat → Int32) (mww : Nat → Int32) (mmb : Nat → Int32) (msh : Nat → Int64) (mpa : Nat → Int64) (mgo : Nat → Int64) (h : REL N xrd xal xpl xpc xsc xtc xhd xwt mpl msc mtc msr mal mpg mam mwa mww mmb) (hN : N + 1 < 1000) (q1 : Int32) (q2 : Int32) (q3 : Int32) : (f_X6_mixed xta xtb xns xnc xna xnb xfs xba xbe xpr xmx xsd xpt xfa xfb xsc xtc xhd xwt q1 q2 q3).1 = (f_X7_mixed msc mtc mmy mbe mmf mbs mco mam mwa mww mmb msh mpa mgo q1 q2 q3).1 ∧ REL (N + 1) xrd xal xpl xpc xsc xtc xhd xwt mpl msc mtc msr mal mpg mam mwa mww ((f_X7_mixed msc mtc mmy mbe mmf mbs mco mam mwa mww mmb msh mpa mgo q1 q2 q3).2.2.2.2.2.2.1) := by
  have hup := h.up hN
  obtain ⟨h1, h2, h3, rfl, rfl, h6, h7, h8, h9, h10, hST, h12⟩ := h
  unfold f_X6_mixed f_X7_mixed
  rw [used_eq, part_eq, trc_eq h7]
  by_cases c1 : f_X7_isTracer xtc q1 = 0
  · rw [if_pos c1, if_pos c1]
    exact ⟨rfl, hup⟩
  · rw [if_neg c1, if_neg c1]
    by_cases c2 : f_X7_isUsed xtc q2 = 0
    · rw [if_pos c2, if_pos c2]
      exact ⟨rfl, hup⟩
    · rw [if_neg c2, if_neg c2]
      by_cases c3 : f_X7_within q3 0 1 = 0
      · rw [if_pos c3, if_pos c3]
        exact ⟨rfl, hup⟩
      · rw [if_neg c3, if_neg c3]
        dsimp only
        rw [← trc_eq h7] at c1
        obtain ⟨n, hn, rfl⟩ := h6
        obtain ⟨b, hb, rfl⟩ := h7
        obtain ⟨s, hs, rfl⟩ := trc_n hb c1
        have hn1 : 1 ≤ n := by
          rcases Nat.eq_zero_or_pos n with q | q
          · have e := h12.2 (by rw [q]; rfl)
            have e2 := (nI_0_iff (show b < 2 ^ 31 by omega)).mp e
            omega
          · exact q
        obtain ⟨bs, hS⟩ := best_same (xna := xna) (xnb := xnb) (xfs := xfs) (xba := xba) (xbe := xbe) (xpr := xpr) (xmx := xmx) (xsd := xsd) (xpt := xpt) (xfa := xfa) (xfb := xfb) (mmy := mmy) (mbe := mbe) (mmf := mmf) (msh := msh) (mpa := mpa) (mgo := mgo) (us := q2) (env_of hb hST) hn1 hn h10
        exact ⟨mixed_at (env_of hb hST) hn hS (by omega) q3, hup.mmb (layBest_MB ⟨n, hn, rfl⟩ h10)⟩

theorem good_eq {hd wt am wa ww : Nat → Int32} {us : Int32} {xpr w9 w10 w11 : Nat → Int64} {v9 : Nat → Int32} {v10 v11 v12 : Nat → Int64} {n b i : Nat} (hE : ENV b hd wt am wa ww) (hn : n ≤ 4) (h1 : 1 ≤ i) (hi : i < 2 ^ n) (hMB : MB v9) : f_X0_isGood (f_X0_solve (f_X0_weigh xpr hd wt us) w9 w10 w11 (nI i)).1 (f_X0_solve (f_X0_weigh xpr hd wt us) w9 w10 w11 (nI i)).2.2.1 (f_X0_solve (f_X0_weigh xpr hd wt us) w9 w10 w11 (nI i)).2.2.2.2.2.1 = f_X7_isGood (f_X7_laySet (nI n) (nI b) am wa ww v9 v10 v11 v12 (nI i) us).1 (f_X7_laySet (nI n) (nI b) am wa ww v9 v10 v11 v12 (nI i) us).2.1 (f_X7_laySet (nI n) (nI b) am wa ww v9 v10 v11 v12 (nI i) us).2.2.2.1 (f_X7_laySet (nI n) (nI b) am wa ww v9 v10 v11 v12 (nI i) us).2.2.2.2.1 := by
  have hp := p16 hn
  have hi16 : i < 16 := by omega
  obtain ⟨x1, x2, x3, x4, x5⟩ := solve_x (hd := hd) (wt := wt) (us := us) (pr := xpr) (mx := w9) (sd := w10) (pt := w11) h1 hi16
  obtain ⟨m1, m2, m3, m4, m5, m6⟩ := lay_m (mmb := v9) (msh := v10) (pa := v11) (go := v12) (us := us) hE hn h1 hi hMB
  rw [x1, x3, m1, m2]
  refine good_at h1 hi16 m4 (fun t ht hb => ?_)
  have htn : t < n := by
    rcases Nat.lt_or_ge t n with q | q
    · exact q
    · have hp2 : 2 ^ n ≤ 2 ^ t := Nat.pow_le_pow_right (by decide) q
      rw [Nat.testBit_lt_two_pow (by omega)] at hb
      exact absurd hb (by decide)
  rw [m5 t htn, x4 t ht]
theorem set_eq {sc q : Int32} : f_X2_isSet sc q = f_X7_within q 1 ((1 <<< (sc &&& 31)) - 1) := rfl
theorem q_corner {N : Nat} (xrd : Int64) (xal : Int64) (xpl : Int32) (xpc : Nat → Int32) (xfs : Int32) (xba : Int32) (xbe : Int64) (xpr : Nat → Int64) (xmx : Nat → Int64) (xsd : Nat → Int64) (xpt : Nat → Int64) (xfa : Int64) (xfb : Int64) (xsc : Int32) (xtc : Int32) (xhd : Nat → Int32) (xwt : Nat → Int32) (mpl : Int32) (msc : Int32) (mtc : Int32) (msr : Int32) (mal : Int32) (mmy : Int32) (mbe : Int64) (mmf : Int64) (mpg : Nat → Int32) (mam : Nat → Int32) (mwa : Nat → Int32) (mww : Nat → Int32) (mmb : Nat → Int32) (msh : Nat → Int64) (mpa : Nat → Int64) (mgo : Nat → Int64) (h : REL N xrd xal xpl xpc xsc xtc xhd xwt mpl msc mtc msr mal mpg mam mwa mww mmb) (hN : N + 1 < 1000) (q1 : Int32) (q2 : Int32) (q3 : Int32) : (f_X6_corner xfs xba xbe xpr xmx xsd xpt xfa xfb xsc xtc xhd xwt q1 q2 q3).1 = (f_X7_corner msc mtc mmy mbe mmf mam mwa mww mmb msh mpa mgo q1 q2 q3).1 ∧ REL (N + 1) xrd xal xpl xpc xsc xtc xhd xwt mpl msc mtc msr mal mpg mam mwa mww ((f_X7_corner msc mtc mmy mbe mmf mam mwa mww mmb msh mpa mgo q1 q2 q3).2.2.2.2.1) := by
  have hup := h.up hN
  obtain ⟨h1, h2, h3, rfl, rfl, h6, h7, h8, h9, h10, hST, h12⟩ := h
  unfold f_X6_corner f_X7_corner
  rw [used_eq, set_eq]
  by_cases c1 : xsc = 0
  · rw [if_pos c1, if_pos c1]
    exact ⟨rfl, hup⟩
  · rw [if_neg c1, if_neg c1]
    by_cases c0 : f_X7_within q1 1 ((1 <<< (xsc &&& 31)) - 1) = 0
    · rw [if_pos c0, if_pos c0]
      exact ⟨rfl, hup⟩
    · rw [if_neg c0, if_neg c0]
      by_cases c2 : f_X7_isUsed xtc q2 = 0
      · rw [if_pos c2, if_pos c2]
        exact ⟨rfl, hup⟩
      · rw [if_neg c2, if_neg c2]
        unfold f_X7_within
        by_cases c3 : q3 < 0
        · rw [if_pos c3, if_pos c3, if_pos rfl]
          exact ⟨rfl, hup⟩
        · rw [if_neg c3, if_neg c3]
          by_cases c4 : q3 ≤ 2
          · rw [if_pos c4, if_neg (show ¬ (2 : Int32) < q3 from fun q => absurd c4 (not_le_lt.mpr q)), if_neg i10]
            dsimp only
            obtain ⟨n, hn, rfl⟩ := h6
            obtain ⟨b, hb, rfl⟩ := h7
            obtain ⟨s, hs1, hs2, rfl⟩ := used_of hn c0
            have hp := p16 hn
            have hE := env_of hb hST
            obtain ⟨x1, x2, x3, x4, x5⟩ := solve_x (hd := xhd) (wt := xwt) (us := q2) (pr := xpr) (mx := xmx) (sd := xsd) (pt := xpt) hs1 (show s < 16 by omega)
            obtain ⟨m1, m2, m3, m4, m5, m6⟩ := lay_m (mmb := mmb) (msh := msh) (pa := mpa) (go := mgo) (us := q2) hE hn hs1 hs2 h10
            have hgd := good_eq hE hn hs1 hs2 h10 (us := q2) (xpr := xpr) (w9 := xmx) (w10 := xsd) (w11 := xpt) (v10 := msh) (v11 := mpa) (v12 := mgo)
            generalize f_X0_solve (f_X0_weigh xpr xhd xwt q2) xmx xsd xpt (nI s) = z at x1 x2 x3 x4 x5 hgd ⊢
            generalize f_X7_laySet (nI n) (nI b) mam mwa mww mmb msh mpa mgo (nI s) q2 = y at m1 m2 m3 m4 m5 m6 hgd ⊢
            by_cases c5 : q3 = 0
            · rw [if_pos c5, if_pos c5, ← hgd]
              split
              · exact ⟨rfl, hup.mmb m6⟩
              · exact ⟨rfl, hup.mmb m6⟩
            · rw [if_neg c5, if_neg c5]
              unfold f_X0_isOnly
              rw [x3, m2, m3]
              by_cases c6 : BX xhd xwt q2 s ≤ 0
              · obtain ⟨zz, z0, hz⟩ := BX_Bd (us := q2) hE.2.1 hE.2.2.1 hs1 (show s < 16 by omega)
                have e0 : BX xhd xwt q2 s = 0 := by
                  apply Int64.toInt_inj.mp
                  have ht := hz.toInt (by decide)
                  rw [Int64.le_iff_toInt_le, ht] at c6
                  rw [ht]
                  have f0 : (0 : Int64).toInt = 0 := by decide
                  rw [f0] at c6 ⊢
                  omega
                rw [if_pos c6, if_pos rfl, if_pos e0]
                exact ⟨rfl, hup.mmb m6⟩
              · have hpos : 0 < BX xhd xwt q2 s := Int64.not_le.mp c6
                rw [if_neg c6, if_neg i10, if_neg (ne0_lpos hpos)]
                obtain ⟨zz, _, hz⟩ := FX_Bd (us := q2) hE.2.1 hE.2.2.1 hs1 (show s < 16 by omega)
                have e := low_at (q := q3 - 1) hE.2.1 hE.2.2.1 hs1 (show s < 16 by omega) hpos ⟨zz, hz⟩ (by decide)
                rw [← x5] at e
                exact ⟨e, hup.mmb m6⟩
          · rw [if_neg c4, if_pos (show (2 : Int32) < q3 from not_le_lt.mp c4), if_pos rfl]
            exact ⟨rfl, hup⟩

