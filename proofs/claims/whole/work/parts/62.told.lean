theorem trc_lt {tc q : Int32} (h : ¬ f_X2_isTracer tc q = 0) : ¬ q < 0 ∧ ¬ tc ≤ q := by
  unfold f_X2_isTracer at h
  split at h
  · exact absurd rfl h
  · split at h
    · exact absurd rfl h
    · rename_i a b; exact ⟨a, b⟩
theorem ix4 {a b : Nat} (ha : a < 4) (hb : b < 4) : (4 * nI a + nI b).toNatClampNeg = a * 4 + b := by
  have := ix_lin2 (a := a) (b := b) (cn := 4) (by omega)
  rw [Nat.mul_comm a 4]
  exact this
theorem lt4_iff {q : Int32} : (q < 4) ↔ ¬ (3 < q) := by
  rw [Int32.lt_iff_toInt_lt, Int32.lt_iff_toInt_lt]
  have e4 : (4 : Int32).toInt = 4 := by decide
  have e3 : (3 : Int32).toInt = 3 := by decide
  omega
theorem heldOf_m {hd : Nat → Int32} {b : Nat} (hb : b < 4) : f_X2_heldOf hd 4 (nI b) = hd (16 + b) := heldOf_at (a := 4) (by decide) hb
theorem putHeld_m {hd : Nat → Int32} {b : Nat} {v : Int32} (hb : b < 4) : f_X2_putHeld hd 4 (nI b) v = upd hd (16 + b) v := putHeld_at (a := 4) (by decide) hb
theorem q_has {N : Nat} (xrd : Int64) (xal : Int64) (xpl : Int32) (xpc : Nat → Int32) (xsc : Int32) (xtc : Int32) (xhd : Nat → Int32) (xwt : Nat → Int32) (mpl : Int32) (msc : Int32) (mtc : Int32) (msr : Int32) (mal : Int32) (mpg : Nat → Int32) (mam : Nat → Int32) (mwa : Nat → Int32) (mww : Nat → Int32) (mmb : Nat → Int32) (h : REL N xrd xal xpl xpc xsc xtc xhd xwt mpl msc mtc msr mal mpg mam mwa mww mmb) (hN : N + 1 < 1000) (q1 : Int32) (q2 : Int32) : (f_X6_has xsc xtc xhd q1 q2) = (f_X7_has msc mtc mam q1 q2) ∧ REL (N + 1) xrd xal xpl xpc xsc xtc xhd xwt mpl msc mtc msr mal mpg mam mwa mww mmb := by
  refine ⟨?_, h.up hN⟩
  obtain ⟨h1, h2, h3, rfl, rfl, h6, h7, h8, h9, h10, ⟨g1, g2, g3, g4, g5, g6, g7⟩, h12⟩ := h
  unfold f_X6_has f_X7_has f_X7_hasNow
  rw [src_eq h6, trc_eq h7]
  by_cases c1 : f_X7_isSource xsc q1 = 0
  · rw [if_pos c1, if_pos c1]
  · rw [if_neg c1, if_neg c1]
    obtain ⟨a, ha, rfl⟩ := L4_of_src h6 c1
    unfold f_X7_within
    by_cases c2 : q2 < 0
    · rw [if_pos c2, if_pos c2, if_pos rfl]
    · rw [if_neg c2, if_neg c2]
      by_cases c3 : q2 < 4
      · rw [if_pos c3, if_neg (lt4_iff.mp c3), if_neg i10]
        by_cases c4 : f_X7_isTracer xtc q2 = 0
        · rw [if_pos c4, if_pos c4]
        · rw [if_neg c4, if_neg c4]
          obtain ⟨b, hb, rfl⟩ := L4_of_src h7 c4
          rw [heldOf_at (by omega) hb, ix4 ha hb, g1 _ (by omega)]
      · have c5 : (3 : Int32) < q2 := Decidable.byContradiction (fun c => c3 (lt4_iff.mpr c))
        rw [if_neg c3, if_pos c5, if_pos rfl]
theorem q_tracer {N : Nat} (xrd : Int64) (xal : Int64) (xpl : Int32) (xpc : Nat → Int32) (xsc : Int32) (xtc : Int32) (xhd : Nat → Int32) (xwt : Nat → Int32) (mpl : Int32) (msc : Int32) (mtc : Int32) (msr : Int32) (mal : Int32) (mpg : Nat → Int32) (mam : Nat → Int32) (mwa : Nat → Int32) (mww : Nat → Int32) (mmb : Nat → Int32) (h : REL N xrd xal xpl xpc xsc xtc xhd xwt mpl msc mtc msr mal mpg mam mwa mww mmb) (hN : N + 1 < 1000) (q1 : Int32) (q2 : Int32) : (f_X6_tracer xtc xhd xwt q1 q2) = (f_X7_tracer mtc mwa mww q1 q2) ∧ REL (N + 1) xrd xal xpl xpc xsc xtc xhd xwt mpl msc mtc msr mal mpg mam mwa mww mmb := by
  refine ⟨?_, h.up hN⟩
  obtain ⟨h1, h2, h3, rfl, rfl, h6, h7, h8, h9, h10, ⟨g1, g2, g3, g4, g5, g6, g7⟩, h12⟩ := h
  unfold f_X6_tracer f_X7_tracer
  rw [trc_eq h7]
  by_cases c1 : f_X7_isTracer xtc q1 = 0
  · rw [if_pos c1, if_pos c1]
  · rw [if_neg c1, if_neg c1]
    obtain ⟨b, hb, rfl⟩ := L4_of_src h7 c1
    rw [heldOf_m hb, weightOf_at hb, nI_clamp (by omega), g2 b hb, g3 b hb]
theorem ST_amount {tc : Int32} {hd wt am wa ww : Nat → Int32} {b n : Nat} (h : ST tc hd wt am wa ww) (hb : b < 4) (hn : n ≤ 20) (ht : ¬ tc ≤ nI b) : ST tc (upd hd (16 + b) (nI n)) wt am (upd wa b (nI n)) (upd ww b (ww b)) := by
  obtain ⟨g1, g2, g3, g4, g5, g6, g7⟩ := h
  unfold upd
  refine ⟨fun k hk => ?_, fun t h4 => ?_, fun t h4 => ?_, fun k hk => ?_, g5, g6, fun t h4 hc => ?_⟩
  · show (if k = 16 + b then nI n else hd k) = am k
    rw [if_neg (by omega)]; exact g1 k hk
  · show (if 16 + t = 16 + b then nI n else hd (16 + t)) = (if t = b then nI n else wa t)
    by_cases e : t = b
    · rw [if_pos e, if_pos (by omega)]
    · rw [if_neg e, if_neg (by omega)]; exact g2 t h4
  · show wt t = (if t = b then ww b else ww t)
    by_cases e : t = b
    · rw [if_pos e, e]; exact g3 b hb
    · rw [if_neg e]; exact g3 t h4
  · show ∃ m : Nat, m ≤ 20 ∧ (if k = 16 + b then nI n else hd k) = nI m
    by_cases e : k = 16 + b
    · rw [if_pos e]; exact ⟨n, hn, rfl⟩
    · rw [if_neg e]; exact g4 k hk
  · show (if t = b then nI n else wa t) = 0
    by_cases e : t = b
    · rw [e] at hc; exact absurd hc ht
    · rw [if_neg e]; exact g7 t h4 hc
theorem ST_weight {tc : Int32} {hd wt am wa ww : Nat → Int32} {b n : Nat} (h : ST tc hd wt am wa ww) (hb : b < 4) (hn : n ≤ 5) : ST tc hd (upd wt b (nI n)) am (upd wa b (wa b)) (upd ww b (nI n)) := by
  obtain ⟨g1, g2, g3, g4, g5, g6, g7⟩ := h
  unfold upd
  refine ⟨g1, fun t h4 => ?_, fun t h4 => ?_, g4, fun t h4 => ?_, g6, fun t h4 hc => ?_⟩
  · show hd (16 + t) = (if t = b then wa b else wa t)
    by_cases e : t = b
    · rw [if_pos e, e]; exact g2 b hb
    · rw [if_neg e]; exact g2 t h4
  · show (if t = b then nI n else wt t) = (if t = b then nI n else ww t)
    by_cases e : t = b
    · rw [if_pos e, if_pos e]
    · rw [if_neg e, if_neg e]; exact g3 t h4
  · show ∃ m : Nat, m ≤ 5 ∧ (if t = b then nI n else wt t) = nI m
    by_cases e : t = b
    · rw [if_pos e]; exact ⟨n, hn, rfl⟩
    · rw [if_neg e]; exact g5 t h4
  · show (if t = b then wa b else wa t) = 0
    by_cases e : t = b
    · rw [if_pos e]; rw [e] at hc; exact g7 b hb hc
    · rw [if_neg e]; exact g7 t h4 hc
theorem ST_alter {tc : Int32} {hd wt am wa ww : Nat → Int32} {a b n : Nat} (h : ST tc hd wt am wa ww) (ha : a < 4) (hb : b < 4) (hn : n ≤ 20) (ht : ¬ tc ≤ nI b) : ST tc (upd hd (a * 4 + b) (nI n)) wt (upd am (a * 4 + b) (nI n)) wa ww := by
  obtain ⟨g1, g2, g3, g4, g5, g6, g7⟩ := h
  unfold upd
  refine ⟨fun k hk => ?_, fun t h4 => ?_, g3, fun k hk => ?_, g5, fun s t hs h4 hc => ?_, g7⟩
  · show (if k = a * 4 + b then nI n else hd k) = (if k = a * 4 + b then nI n else am k)
    by_cases e : k = a * 4 + b
    · rw [if_pos e, if_pos e]
    · rw [if_neg e, if_neg e]; exact g1 k hk
  · show (if 16 + t = a * 4 + b then nI n else hd (16 + t)) = wa t
    rw [if_neg (by omega)]; exact g2 t h4
  · show ∃ m : Nat, m ≤ 20 ∧ (if k = a * 4 + b then nI n else hd k) = nI m
    by_cases e : k = a * 4 + b
    · rw [if_pos e]; exact ⟨n, hn, rfl⟩
    · rw [if_neg e]; exact g4 k hk
  · show (if 4 * s + t = a * 4 + b then nI n else am (4 * s + t)) = 0
    by_cases e : t = b
    · rw [e] at hc; exact absurd hc ht
    · rw [if_neg (by omega)]; exact g6 s t hs h4 hc
theorem q_alter {N : Nat} (xrd : Int64) (xal : Int64) (xpl : Int32) (xpc : Nat → Int32) (xsc : Int32) (xtc : Int32) (xhd : Nat → Int32) (xwt : Nat → Int32) (mpl : Int32) (msc : Int32) (mtc : Int32) (msr : Int32) (mal : Int32) (mpg : Nat → Int32) (mam : Nat → Int32) (mwa : Nat → Int32) (mww : Nat → Int32) (mmb : Nat → Int32) (h : REL N xrd xal xpl xpc xsc xtc xhd xwt mpl msc mtc msr mal mpg mam mwa mww mmb) (hN : N + 1 < 1000) (q1 : Int32) (q2 : Int32) (q3 : Int32) : (f_X6_alter xal xsc xtc xhd q1 q2 q3).1 = (f_X7_alter msc mtc mal mam q1 q2 q3).1 ∧ REL (N + 1) xrd ((f_X6_alter xal xsc xtc xhd q1 q2 q3).2.1) xpl xpc xsc xtc ((f_X6_alter xal xsc xtc xhd q1 q2 q3).2.2) xwt mpl msc mtc msr ((f_X7_alter msc mtc mal mam q1 q2 q3).2.1) mpg ((f_X7_alter msc mtc mal mam q1 q2 q3).2.2) mwa mww mmb := by
  have hup := h.up hN
  obtain ⟨h1, h2, h3, rfl, rfl, h6, h7, h8, h9, h10, hST, h12⟩ := h
  unfold f_X6_alter f_X7_alter f_X6_putHeld
  by_cases c1 : f_X7_isSource xsc q1 = 0
  · rw [src_eq h6, if_pos c1, if_pos c1]; exact ⟨rfl, hup⟩
  · by_cases c2 : f_X2_isTracer xtc q2 = 0
    · have c2' := c2; rw [trc_eq h7] at c2'
      rw [src_eq h6, if_neg c1, if_neg c1, if_pos c2, if_pos c2']; exact ⟨rfl, hup⟩
    · have c2' := c2; rw [trc_eq h7] at c2'
      obtain ⟨a, ha, rfl⟩ := L4_of_src h6 c1
      obtain ⟨b, hb, rfl⟩ := L4_of_src h7 c2'
      by_cases c3 : f_X7_within q3 0 20 = 0
      · rw [src_eq h6, if_neg c1, if_neg c1, if_neg c2, if_neg c2', held_eq, if_pos c3, if_pos c3]; exact ⟨rfl, hup⟩
      · rw [src_eq h6, if_neg c1, if_neg c1, if_neg c2, if_neg c2', held_eq, if_neg c3, if_neg c3]
        obtain ⟨n, hn1, hn2, rfl⟩ := rng_of (lo := 0) (hi := 20) (by decide) c3 (by decide)
        dsimp only
        rw [heldOf_at (by omega) hb, putHeld_at (by omega) hb, ix4 ha hb]
        refine ⟨by rw [hST.1 _ (by omega)], h1, h2, h3, rfl, rfl, h6, h7, h8.mono (by omega), h9.inc, h10, ST_alter hST ha hb hn2 (trc_lt c2).2, hN, h12.2⟩
theorem q_set {N : Nat} (xrd : Int64) (xal : Int64) (xpl : Int32) (xpc : Nat → Int32) (xsc : Int32) (xtc : Int32) (xhd : Nat → Int32) (xwt : Nat → Int32) (mpl : Int32) (msc : Int32) (mtc : Int32) (msr : Int32) (mal : Int32) (mpg : Nat → Int32) (mam : Nat → Int32) (mwa : Nat → Int32) (mww : Nat → Int32) (mmb : Nat → Int32) (h : REL N xrd xal xpl xpc xsc xtc xhd xwt mpl msc mtc msr mal mpg mam mwa mww mmb) (hN : N + 1 < 1000) (q1 : Int32) (q2 : Int32) (q3 : Int32) : (f_X6_set xal xtc xhd xwt q1 q2 q3).1 = (f_X7_set mtc mal mwa mww q1 q2 q3).1 ∧ REL (N + 1) xrd ((f_X6_set xal xtc xhd xwt q1 q2 q3).2.1) xpl xpc xsc xtc ((f_X6_set xal xtc xhd xwt q1 q2 q3).2.2.1) ((f_X6_set xal xtc xhd xwt q1 q2 q3).2.2.2) mpl msc mtc msr ((f_X7_set mtc mal mwa mww q1 q2 q3).2.1) mpg mam ((f_X7_set mtc mal mwa mww q1 q2 q3).2.2.1) ((f_X7_set mtc mal mwa mww q1 q2 q3).2.2.2) mmb := by
  have hup := h.up hN
  obtain ⟨h1, h2, h3, rfl, rfl, h6, h7, h8, h9, h10, hST, h12⟩ := h
  unfold f_X6_set f_X7_set f_X6_putHeld
  by_cases c1 : f_X2_isTracer xtc q1 = 0
  · have c1' := c1; rw [trc_eq h7] at c1'
    rw [if_pos c1, if_pos c1']; exact ⟨rfl, hup⟩
  · have c1' := c1; rw [trc_eq h7] at c1'
    obtain ⟨b, hb, rfl⟩ := L4_of_src h7 c1'
    rw [if_neg c1, if_neg c1', nI_clamp (by omega)]
    dsimp only
    by_cases c2 : q2 = 0
    · have c2' : ¬ q2 = 1 := fun e => by rw [c2] at e; exact absurd e (by decide)
      simp only [if_pos c2, if_neg c2']
      by_cases c3 : f_X7_within q3 0 20 = 0
      · rw [held_eq, if_pos c3, if_pos c3]; exact ⟨rfl, hup⟩
      · rw [held_eq, if_neg c3, if_neg c3]
        obtain ⟨n, hn1, hn2, rfl⟩ := rng_of (lo := 0) (hi := 20) (by decide) c3 (by decide)
        rw [heldOf_m hb, putHeld_m hb]
        exact ⟨by rw [hST.2.1 b hb], h1, h2, h3, rfl, rfl, h6, h7, h8.mono (by omega), h9.inc, h10, ST_amount hST hb hn2 (trc_lt c1).2, hN, h12.2⟩
    · simp only [if_neg c2]
      by_cases c3 : q2 = 1
      · simp only [if_pos c3]
        by_cases c4 : f_X7_within q3 1 5 = 0
        · rw [if_pos c4, if_pos rfl]
          unfold f_X7_within at c4
          by_cases c5 : q3 < 1
          · rw [if_pos c5]; exact ⟨rfl, hup⟩
          · rw [if_neg c5] at c4 ⊢
            by_cases c6 : 5 < q3
            · rw [if_pos c6]; exact ⟨rfl, hup⟩
            · rw [if_neg c6] at c4; exact absurd c4 i10
        · rw [if_neg c4, if_neg i10]
          obtain ⟨c5, c6⟩ := within_of c4
          obtain ⟨n, hn1, hn2, rfl⟩ := rng_of (lo := 1) (hi := 5) (by decide) c4 (by decide)
          rw [if_neg c5, if_neg c6, weightOf_at hb, putWeight_at hb]
          exact ⟨by rw [hST.2.2.1 b hb], h1, h2, h3, rfl, rfl, h6, h7, h8.mono (by omega), h9.inc, h10, ST_weight hST hb hn2, hN, h12.2⟩
      · simp only [if_neg c3, if_true]
        exact ⟨trivial, hup⟩
