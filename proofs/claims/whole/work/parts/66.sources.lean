theorem ST_new {a b c : Nat} {dr na hd wt am wa ww : Nat → Int32} (hb : b < 4) (hc : a = 0 ∨ b + 1 = c) (h : DR a (b + 1) c dr na) (h1 : ∀ k : Nat, k < 20 → hd k = if k < 16 then dr k else 0) (h2 : ∀ k : Nat, k < 4 → wt k = 1) (h3 : ∀ k : Nat, k < 16 → am k = if k / 4 < a + 1 ∧ k % 4 < b + 1 then na k else 0) (h4 : ∀ k : Nat, k < 4 → wa k = 0) (h5 : ∀ k : Nat, k < 4 → ww k = 1) : ST (nI (b + 1)) hd wt am wa ww := by
  refine ⟨fun k hk => ?_, fun t ht => ?_, fun t ht => ?_, fun k hk => ?_, fun t ht => ?_, fun s t hs ht hct => ?_, fun t ht _ => h4 t ht⟩
  · rw [h1 k (by omega), if_pos hk, h3 k hk]
    obtain ⟨g1, g2⟩ := h k hk
    by_cases q : k / 4 < a + 1 ∧ k % 4 < b + 1
    · rw [if_pos q]
      exact (g1 (by unfold DN; omega)).1
    · rw [if_neg q]
      exact g2 (by unfold DN; omega)
  · rw [h1 (16 + t) (by omega), if_neg (by omega), h4 t ht]
  · rw [h2 t ht, h5 t ht]
  · rw [h1 k hk]
    by_cases q : k < 16
    · rw [if_pos q]
      obtain ⟨g1, g2⟩ := h k q
      by_cases q2 : DN a (b + 1) c k
      · exact (g1 q2).2
      · exact ⟨0, by omega, by rw [g2 q2]; exact nI_0.symm⟩
    · rw [if_neg q]
      exact ⟨0, by omega, nI_0.symm⟩
  · exact ⟨1, by omega, by rw [h2 t ht]; rfl⟩
  · rw [h3 (4 * s + t) (by omega), if_neg]
    have : b + 1 ≤ t := by
      rcases Nat.lt_or_ge t (b + 1) with q | q
      · exact absurd hct (nI_ge q (by omega))
      · exact q
    omega
theorem q_sources {N : Nat} (xrd : Int64) (xal : Int64) (xpl : Int32) (xpc : Nat → Int32) (xdr : Nat → Int32) (xsc : Int32) (xtc : Int32) (xhd : Nat → Int32) (xwt : Nat → Int32) (mpl : Int32) (msc : Int32) (mtc : Int32) (msr : Int32) (mal : Int32) (mpg : Nat → Int32) (mam : Nat → Int32) (mwa : Nat → Int32) (mww : Nat → Int32) (mna : Nat → Int32) (mmb : Nat → Int32) (h : REL N xrd xal xpl xpc xsc xtc xhd xwt mpl msc mtc msr mal mpg mam mwa mww mmb) (hN : N + 1 < 1000) : (f_X6_sources xrd xpl xpc xdr xsc xtc xhd xwt).1 = (f_X7_sources mpl msc mtc msr mpg mam mwa mww mna).1 ∧ REL (N + 1) ((f_X6_sources xrd xpl xpc xdr xsc xtc xhd xwt).2.1) xal ((f_X6_sources xrd xpl xpc xdr xsc xtc xhd xwt).2.2.1) xpc ((f_X6_sources xrd xpl xpc xdr xsc xtc xhd xwt).2.2.2.2.2.2.2.2.1) ((f_X6_sources xrd xpl xpc xdr xsc xtc xhd xwt).2.2.2.2.2.2.2.2.2.1) ((f_X6_sources xrd xpl xpc xdr xsc xtc xhd xwt).2.2.2.2.2.2.2.2.2.2.1) ((f_X6_sources xrd xpl xpc xdr xsc xtc xhd xwt).2.2.2.2.2.2.2.2.2.2.2) ((f_X7_sources mpl msc mtc msr mpg mam mwa mww mna).2.1) ((f_X7_sources mpl msc mtc msr mpg mam mwa mww mna).2.2.1) ((f_X7_sources mpl msc mtc msr mpg mam mwa mww mna).2.2.2.1) ((f_X7_sources mpl msc mtc msr mpg mam mwa mww mna).2.2.2.2.1) mal mpg ((f_X7_sources mpl msc mtc msr mpg mam mwa mww mna).2.2.2.2.2.2.2.2.2.2.1) ((f_X7_sources mpl msc mtc msr mpg mam mwa mww mna).2.2.2.2.2.2.2.2.2.2.2.1) ((f_X7_sources mpl msc mtc msr mpg mam mwa mww mna).2.2.2.2.2.2.2.2.2.2.2.2.1) mmb := by
  have hup := h.up hN
  obtain ⟨⟨n, hn, rfl⟩, rfl, rfl, rfl, rfl, h6, h7, h8, h9, h10, hST, h12⟩ := h
  have hr := read_all (pc := xpc) (dr := xdr) (na := mna) hn
  unfold f_X6_sources f_X7_sources
  dsimp only
  generalize f_X5_read xdr (nI n) xpc = X at hr ⊢
  generalize f_X7_goAlong (nI n) xpc mna = M at hr ⊢
  obtain ⟨x1, x2, x3, x4, x5, x6⟩ := X
  obtain ⟨m1, m2, m3, m4, m5, m6, m7⟩ := M
  obtain ⟨e, hr⟩ := hr
  dsimp only at e hr ⊢
  subst e
  rcases hr with ⟨eN, hs⟩ | ⟨j, hj, ej⟩
  · subst eN
    rw [if_neg (nI_nlt (Nat.le_refl n) (by omega)), if_neg (nI_nlt (Nat.le_refl n) (by omega))]
    obtain ⟨a, b, c, ha, hb, hc, hac, hbc, rfl, rfl, rfl, rfl, rfl, rfl, hnum, hdr⟩ := hs
    obtain ⟨l1, l2⟩ := last_eq ha hb hc hac
    unfold f_X5_finish
    rw [l1, keep_at ha hb]
    rcases hnum with ⟨rfl, rfl, rfl⟩ | ⟨v, hv, rfl, rfl, hf⟩
    · simp only [if_true]
      exact ⟨trivial, hup⟩
    · have hfi : ¬ m5 = 0 := by rcases hf with ⟨rfl, -⟩ | ⟨rfl, -⟩ <;> decide
      rw [if_neg (nIm1 (by omega)), if_neg hfi]
      have hput := DR_put ha hb hv hdr
      by_cases g : a = 0 ∨ b + 1 = c
      · simp only [if_pos g, if_neg i10]
        obtain ⟨b1, b2⟩ := bec2L (xdr := upd x6 (a * 4 + b) (nI v)) 5 0 xhd xwt (by omega) (by omega)
        obtain ⟨s1, s2⟩ := src2L 5 0 mwa mww (by omega) (by omega)
        unfold f_X2_become f_X5_sourcesRead f_X5_tracersRead
        dsimp only
        rw [endN_at ha hb, nI_1, nI_1]
        have key : ∀ (am' : Nat → Int32), (∀ k : Nat, k < 16 → am' k = if k / 4 < a + 1 ∧ k % 4 < b + 1 then (upd m7 (a * 4 + b) (nI v)) k else 0) → REL (N + 1) (xrd + 1) xal f_X4_empty xpc (nI (a + 1)) (nI (b + 1)) (L_X2_become_18 (upd x6 (a * 4 + b) (nI v)) 5 0 xhd xwt).2.1 (L_X2_become_18 (upd x6 (a * 4 + b) (nI v)) 5 0 xhd xwt).2.2 0 (nI (a + 1)) (nI (b + 1)) (msr + 1) mal xpc am' (L_X7_sources_116 5 0 mwa mww).2.1 (L_X7_sources_116 5 0 mwa mww).2.2 mmb := by
          intro am' ham
          refine ⟨⟨0, by decide, nI_0.symm⟩, rfl, rfl, rfl, rfl, ⟨a + 1, by omega, rfl⟩, ⟨b + 1, by omega, rfl⟩, h8.inc, h9.mono (by omega), h10, ST_new hb g hput (fun k hk => ?_) (fun k hk => ?_) ham (fun k hk => ?_) (fun k hk => ?_), hN, fun e => absurd e (nI_S_ne (by omega))⟩
          · exact (b1 k hk).trans (if_pos (Nat.zero_le _))
          · exact (b2 k hk).trans (if_pos (Nat.zero_le _))
          · exact (s1 k hk).trans (if_pos (Nat.zero_le _))
          · exact (s2 k hk).trans (if_pos (Nat.zero_le _))
        by_cases ga : a = 0
        · have gc := hac.mp ga
          subst gc
          rw [if_pos (show nI 0 ≤ 0 by decide)]
          refine ⟨rfl, key _ (fun k hk => ?_)⟩
          exact (srcL (z1 := (nI n, nI a, nI b, nI 0, m5, nI v, m7)) (z4 := (nI (b + 1), 0, 0, upd m7 (a * 4 + b) (nI v))) (A := a + 1) (B := b + 1) (nI_1 a) rfl (by omega) (by omega) 17 0 mam (by omega) (by omega) k hk).trans (if_pos (Nat.zero_le _))
        · have gb : b + 1 = c := g.resolve_left ga
          rw [if_neg (nI_nle (n := c) (by omega) (by omega)), gb, if_pos rfl]
          refine ⟨rfl, ?_⟩
          have key2 := key (L_X7_sources_66b (nI n, nI a, nI b, nI c, m5, nI v, m7) (nI c, 0, 0, upd m7 (a * 4 + b) (nI v)) 17 0 mam).2 (fun k hk => by
            rw [srcL_b]
            exact (srcL (z1 := (nI n, nI a, nI b, nI c, m5, nI v, m7)) (z4 := (nI c, 0, 0, upd m7 (a * 4 + b) (nI v))) (A := a + 1) (B := b + 1) (nI_1 a) (by rw [gb]) (by omega) (by omega) 17 0 mam (by omega) (by omega) k hk).trans (if_pos (Nat.zero_le _)))
          rw [gb] at key2
          exact key2
      · have ga : ¬ a = 0 := fun q => g (Or.inl q)
        have gc : ¬ c = 0 := fun q => ga (hac.mpr q)
        simp only [if_neg g, if_true]
        rw [if_neg (nI_nle (n := c) (by omega) (by omega)), nI_1, if_neg (fun q => g (Or.inr ((nI_eq (by omega) (by omega)).mp q)))]
        exact ⟨rfl, hup⟩
  · subst ej
    rw [if_pos (nI_lt hj (by omega)), if_pos (nI_lt hj (by omega))]
    exact ⟨rfl, hup⟩
