theorem kN_pos_f : ∀ s : Fin 16, 1 ≤ s.val → 0 < kN s.val := by decide +kernel
theorem kN_pos {s : Nat} (h1 : 1 ≤ s) (hs : s < 16) : 0 < kN s := kN_pos_f ⟨s, hs⟩ h1
theorem REL.mmb {N : Nat} {xrd xal : Int64} {xpl xsc xtc mpl msc mtc msr mal : Int32} {xpc xhd xwt mpg mam mwa mww mmb mmb' : Nat → Int32} (h : REL N xrd xal xpl xpc xsc xtc xhd xwt mpl msc mtc msr mal mpg mam mwa mww mmb) (hm : MB mmb') : REL N xrd xal xpl xpc xsc xtc xhd xwt mpl msc mtc msr mal mpg mam mwa mww mmb' := by
  obtain ⟨h1, h2, h3, h4, h5, h6, h7, h8, h9, h10, h11, h12⟩ := h
  exact ⟨h1, h2, h3, h4, h5, h6, h7, h8, h9, hm, h11, h12⟩
theorem bits_ex_f : ∀ n : Fin 4, ∀ s : Fin 8, s.val < 2 ^ n.val → (∀ i : Fin 4, i.val < n.val → f_X7_hasBit (nI (s.val + 2 ^ n.val)) (nI i.val) = f_X7_hasBit (nI s.val) (nI i.val)) ∧ f_X7_hasBit (nI (s.val + 2 ^ n.val)) (nI n.val) = 1 ∧ f_X7_hasBit (nI s.val) (nI n.val) = 0 := by decide +kernel
theorem bits_ex {f : Nat → Int32} (hf : ∀ i : Nat, f i = 0 ∨ f i = 1) : ∀ n : Nat, n ≤ 4 → ∃ s : Nat, s < 2 ^ n ∧ ∀ i : Nat, i < n → f_X7_hasBit (nI s) (nI i) = f i := by
  intro n
  induction n with
  | zero => intro _; exact ⟨0, by decide, fun i hi => by omega⟩
  | succ n ih =>
    intro hn
    obtain ⟨s, hs, he⟩ := ih (by omega)
    have hp : 2 ^ n ≤ 2 ^ 3 := Nat.pow_le_pow_right (by decide) (by omega)
    obtain ⟨b1, b2, b3⟩ := bits_ex_f ⟨n, by omega⟩ ⟨s, by omega⟩ hs
    rw [Nat.pow_succ]
    rcases hf n with q | q
    · refine ⟨s, by omega, fun i hi => ?_⟩
      by_cases c : i = n
      · rw [c, q]; exact b3
      · exact he i (by omega)
    · refine ⟨s + 2 ^ n, by omega, fun i hi => ?_⟩
      by_cases c : i = n
      · rw [c, q]; exact b2
      · exact (b1 ⟨i, by omega⟩ (show i < n by omega)).trans (he i (by omega))
theorem l7_congr {n : Nat} {st st' : Int32} (hn : n ≤ 4) (h : ∀ i : Nat, i < n → f_X7_hasBit st (nI i) = f_X7_hasBit st' (nI i)) : ∀ (m i : Nat) (w2 : Int32) (w3 : Nat → Int32) (w4 : Nat → Int64), i ≤ n → L_X7_laySet_7 (nI n) st m (nI i) w2 w3 w4 = L_X7_laySet_7 (nI n) st' m (nI i) w2 w3 w4 := by
  intro m
  induction m with
  | zero => intro i w2 w3 w4 _; rfl
  | succ m ih =>
    intro i w2 w3 w4 hi
    rw [L_X7_laySet_7, L_X7_laySet_7]
    by_cases c : i = n
    · rw [if_pos (nI_le (show n ≤ i by omega) (by omega)), if_pos (nI_le (show n ≤ i by omega) (by omega))]
    · rw [if_neg (nI_ge (show i < n by omega) (by omega)), if_neg (nI_ge (show i < n by omega) (by omega)), h i (by omega), nI_1, ih _ _ _ _ (by omega), ih _ _ _ _ (by omega)]
theorem hasBit_01 {a b : Int32} : f_X7_hasBit a b = 0 ∨ f_X7_hasBit a b = 1 := by
  unfold f_X7_hasBit
  split
  · exact Or.inr rfl
  · exact Or.inl rfl
theorem hpos_E {n b : Nat} {hd wt am wa ww : Nat → Int32} (hE : ENV b hd wt am wa ww) (hn : n ≤ 4) : HPOSd (nI n) (nI b) am wa ww := by
  intro mmb msh mpa mgo st us hMB
  obtain ⟨s, hs, he⟩ := bits_ex (f := fun i => f_X7_hasBit st (nI i)) (fun i => hasBit_01) n hn
  have e : f_X7_laySet (nI n) (nI b) am wa ww mmb msh mpa mgo st us = f_X7_laySet (nI n) (nI b) am wa ww mmb msh mpa mgo (nI s) us := by
    unfold f_X7_laySet
    rw [show (0 : Int32) = nI 0 by decide, l7_congr hn (fun i hi => (he i hi).symm) 5 0 _ _ _ (Nat.zero_le _)]
  rw [e]
  obtain ⟨hb, hr, hw, ham, hwa, hww, hz⟩ := hE
  obtain ⟨mj, sh, q1, q2, q3, q4, q5, q6, q7, q8⟩ := laySet_at (mmb := mmb) (msh := msh) (pa := mpa) (go := mgo) (us := us) hr ham hwa hww hn hs hb hz hMB
  rw [q5, q6]
  exact mF_nn hr hw q1
theorem q_hpos {N : Nat} {xrd : Int64} {xal : Int64} {xpl : Int32} {xpc : Nat → Int32} {xsc : Int32} {xtc : Int32} {xhd : Nat → Int32} {xwt : Nat → Int32} {mpl : Int32} {msc : Int32} {mtc : Int32} {msr : Int32} {mal : Int32} {mpg : Nat → Int32} {mam : Nat → Int32} {mwa : Nat → Int32} {mww : Nat → Int32} {mmb : Nat → Int32} (h : REL N xrd xal xpl xpc xsc xtc xhd xwt mpl msc mtc msr mal mpg mam mwa mww mmb) : HPOSd msc mtc mam mwa mww := by
  obtain ⟨h1, h2, h3, rfl, rfl, ⟨n, hn, rfl⟩, ⟨b, hb, rfl⟩, h8, h9, h10, hST, h12⟩ := h
  exact hpos_E (env_of hb hST) hn

theorem best_sim {xna xnb : Int64} {xfs xba : Int32} {xbe : Int64} {xpr xmx xsd xpt : Nat → Int64} {xfa xfb : Int64} {mmy : Int32} {mbe mmf : Int64} {msh mpa mgo : Nat → Int64} {hd wt am wa ww mmb : Nat → Int32} {us : Int32} {n b : Nat} (hE : ENV b hd wt am wa ww) (h1 : 1 ≤ n) (hn : n ≤ 4) (hMB : MB mmb) : ∃ bs : Nat, 1 ≤ bs ∧ bs < 2 ^ n ∧ 0 < BX hd wt us bs ∧ (f_X3_find xna xnb xfs xba xbe xpr xmx xsd xpt xfa xfb (nI n) hd wt us).1 = nI bs ∧ (f_X7_layBest (nI n) (nI b) mmy mbe mmf am wa ww mmb msh mpa mgo us).2.2.2.1 = nI bs ∧ (f_X3_find xna xnb xfs xba xbe xpr xmx xsd xpt xfa xfb (nI n) hd wt us).2.1 = (f_X7_layBest (nI n) (nI b) mmy mbe mmf am wa ww mmb msh mpa mgo us).2.2.2.2.1 ∧ (f_X3_find xna xnb xfs xba xbe xpr xmx xsd xpt xfa xfb (nI n) hd wt us).2.2.1 = f_X7_lowest (FX hd wt us bs) (BX hd wt us bs) 0 ∧ (f_X3_find xna xnb xfs xba xbe xpr xmx xsd xpt xfa xfb (nI n) hd wt us).2.2.2.1 = f_X7_lowest (FX hd wt us bs) (BX hd wt us bs) 1 ∧ (f_X3_find xna xnb xfs xba xbe xpr xmx xsd xpt xfa xfb (nI n) hd wt us).2.2.2.2.2.1 = nI (mN bs 0) ∧ (f_X3_find xna xnb xfs xba xbe xpr xmx xsd xpt xfa xfb (nI n) hd wt us).2.2.2.2.2.2.1 = BX hd wt us bs ∧ (f_X3_find xna xnb xfs xba xbe xpr xmx xsd xpt xfa xfb (nI n) hd wt us).2.2.2.2.2.2.2.1 = f_X0_weigh xpr hd wt us ∧ (∀ t : Nat, t < 4 → (f_X3_find xna xnb xfs xba xbe xpr xmx xsd xpt xfa xfb (nI n) hd wt us).2.2.2.2.2.2.2.2.2.2.1 t = XQ hd wt us bs t) ∧ (f_X7_layBest (nI n) (nI b) mmy mbe mmf am wa ww mmb msh mpa mgo us).2.1 = BX hd wt us bs ∧ (f_X7_layBest (nI n) (nI b) mmy mbe mmf am wa ww mmb msh mpa mgo us).2.2.1 = FX hd wt us bs ∧ (f_X7_layBest (nI n) (nI b) mmy mbe mmf am wa ww mmb msh mpa mgo us).2.2.2.2.2.1 0 = nI (mN bs 0) ∧ (∀ t : Nat, t < n → (f_X7_layBest (nI n) (nI b) mmy mbe mmf am wa ww mmb msh mpa mgo us).2.2.2.2.2.2.1 t = XQ hd wt us bs t) := by
  have hp := p16 hn
  have hp0 : 0 < 2 ^ n := Nat.two_pow_pos n
  obtain ⟨bs, b1, b2, b3, b4, b5, b6, b7⟩ := find_sim (xpr := xpr) (us := us) hE hn 17 1 0 0 0 xna xnb xfs xba xbe xmx xsd xpt xfa xfb 0 1 mmy mbe mmf 0 0 mmb msh mpa mgo (by omega) (by omega) (by omega) (by omega) rfl rfl rfl hMB (Or.inl rfl) (Or.inl rfl) _ _ rfl rfl
  have hb1 := b7 h1
  refine ⟨bs, hb1, b1, ?_⟩
  unfold f_X3_find f_X7_layBest
  dsimp only
  have b2 : (L_X3_find_27 xpr (nI n) hd wt us 17 1 0 0 xna xnb xfs xba xbe xmx xsd xpt xfa xfb).2.1 = nI bs := b2
  have b3 : (L_X7_layBest_18 (nI n) (nI b) am wa ww us 17 0 1 1 mmy mbe mmf 0 0 mmb msh mpa mgo).2.2.2.2.2.2.1 = nI bs := b3
  have b4 : (L_X3_find_27 xpr (nI n) hd wt us 17 1 0 0 xna xnb xfs xba xbe xmx xsd xpt xfa xfb).2.2.1 = (L_X7_layBest_18 (nI n) (nI b) am wa ww us 17 0 1 1 mmy mbe mmf 0 0 mmb msh mpa mgo).2.2.2.2.2.2.2.1 := b4
  have b5 : MB (L_X7_layBest_18 (nI n) (nI b) am wa ww us 17 0 1 1 mmy mbe mmf 0 0 mmb msh mpa mgo).2.2.2.2.2.2.2.2.1 := b5
  have b6 : KEPT hd wt us bs (L_X3_find_27 xpr (nI n) hd wt us 17 1 0 0 xna xnb xfs xba xbe xmx xsd xpt xfa xfb).2.2.2.1 (L_X3_find_27 xpr (nI n) hd wt us 17 1 0 0 xna xnb xfs xba xbe xmx xsd xpt xfa xfb).2.2.2.2.1 (L_X7_layBest_18 (nI n) (nI b) am wa ww us 17 0 1 1 mmy mbe mmf 0 0 mmb msh mpa mgo).1 (L_X7_layBest_18 (nI n) (nI b) am wa ww us 17 0 1 1 mmy mbe mmf 0 0 mmb msh mpa mgo).2.1 := b6
  generalize L_X3_find_27 xpr (nI n) hd wt us 17 1 0 0 xna xnb xfs xba xbe xmx xsd xpt xfa xfb = x at b2 b4 b6 ⊢
  generalize L_X7_layBest_18 (nI n) (nI b) am wa ww us 17 0 1 1 mmy mbe mmf 0 0 mmb msh mpa mgo = y at b3 b4 b5 b6 ⊢
  rcases b6 with q | ⟨_, k2, k3, k4, k5, k6⟩
  · omega
  · rw [b2, b3]
    obtain ⟨x1, x2, x3, x4, x5⟩ := solve_x (hd := hd) (wt := wt) (us := us) (pr := xpr) (mx := x.2.2.2.2.2.2.2.2.1) (sd := x.2.2.2.2.2.2.2.2.2.1) (pt := x.2.2.2.2.2.2.2.2.2.2.1) hb1 (show bs < 16 by omega)
    obtain ⟨m1, m2, m3, m4, m5, m6⟩ := lay_m (mmb := y.2.2.2.2.2.2.2.2.1) (msh := y.2.2.2.2.2.2.2.2.2.1) (pa := y.2.2.2.2.2.2.2.2.2.2.1) (go := y.2.2.2.2.2.2.2.2.2.2.2) (us := us) hE hn hb1 b1 b5
    exact ⟨k2, rfl, rfl, b4, k3, k4, x2, x3, rfl, x4, m2, m3, m4 0 (kN_pos hb1 (by omega)), m5⟩
theorem hbe_E {n b : Nat} {hd wt am wa ww : Nat → Int32} (hE : ENV b hd wt am wa ww) (hn : n ≤ 4) : HBEd (nI n) (nI b) am wa ww := by
  intro mmy mbe mmf mmb msh mpa mgo us hMB
  rcases Nat.eq_zero_or_pos n with rfl | h1
  · obtain ⟨hb, hr, hw, ham, hwa, hww, hz⟩ := hE
    have e : f_X7_layBest (nI 0) (nI b) mmy mbe mmf am wa ww mmb msh mpa mgo us = (fun (z : Int32 × Int64 × Int64 × (Nat → Int32) × (Nat → Int64) × (Nat → Int64) × (Nat → Int64)) => (z.1, z.2.1, z.2.2.1, (0 : Int32), (0 : Int32), z.2.2.2.1, z.2.2.2.2.1, z.2.2.2.2.2.1, z.2.2.2.2.2.2)) (f_X7_laySet (nI 0) (nI b) am wa ww mmb msh mpa mgo (nI 0) us) := rfl
    rw [e]
    dsimp only
    obtain ⟨mj, sh, q1, q2, q3, q4, q5, q6, q7, q8⟩ := laySet_at (mmb := mmb) (msh := msh) (pa := mpa) (go := mgo) (us := us) (n := 0) (s := 0) hr ham hwa hww hn (by decide) hb hz hMB
    rw [q5]
    have e2 : mD hd wt us mj (kN 0) = 1 * (1 * 1 - 0 * 0) + 0 * (0 * 0 - 0 * 1) + 0 * (0 * 0 - 1 * 0) := rfl
    rw [e2]
    decide
  · obtain ⟨bs, b1, b2, b3, _, _, _, _, _, _, _, _, _, b4, _⟩ := best_sim (xna := 0) (xnb := 0) (xfs := 0) (xba := 0) (xbe := 0) (xpr := fun _ => 0) (xmx := fun _ => 0) (xsd := fun _ => 0) (xpt := fun _ => 0) (xfa := 0) (xfb := 0) (mmy := mmy) (mbe := mbe) (mmf := mmf) (msh := msh) (mpa := mpa) (mgo := mgo) (us := us) hE h1 hn hMB
    rw [b4]
    exact ne0_lpos b3
theorem q_hbe {N : Nat} {xrd : Int64} {xal : Int64} {xpl : Int32} {xpc : Nat → Int32} {xsc : Int32} {xtc : Int32} {xhd : Nat → Int32} {xwt : Nat → Int32} {mpl : Int32} {msc : Int32} {mtc : Int32} {msr : Int32} {mal : Int32} {mpg : Nat → Int32} {mam : Nat → Int32} {mwa : Nat → Int32} {mww : Nat → Int32} {mmb : Nat → Int32} (h : REL N xrd xal xpl xpc xsc xtc xhd xwt mpl msc mtc msr mal mpg mam mwa mww mmb) : HBEd msc mtc mam mwa mww := by
  obtain ⟨h1, h2, h3, rfl, rfl, ⟨n, hn, rfl⟩, ⟨b, hb, rfl⟩, h8, h9, h10, hST, h12⟩ := h
  exact hbe_E (env_of hb hST) hn

