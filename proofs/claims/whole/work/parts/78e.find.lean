theorem all_f : ∀ n : Fin 5, f_X2_allSources (nI n.val) = nI (2 ^ n.val - 1) ∧ (1 : Int32) <<< (nI n.val &&& 31) = nI (2 ^ n.val) := by decide +kernel
theorem allS {n : Nat} (h : n ≤ 4) : f_X2_allSources (nI n) = nI (2 ^ n - 1) ∧ (1 : Int32) <<< (nI n &&& 31) = nI (2 ^ n) := all_f ⟨n, by omega⟩
theorem p16 {n : Nat} (h : n ≤ 4) : 2 ^ n ≤ 16 := Nat.pow_le_pow_right (n := 2) (by decide) h
theorem nI_0_iff {k : Nat} (h : k < 2 ^ 31) : nI k = 0 ↔ k = 0 := ⟨fun e => nI_inj h (by decide) (e.trans nI_0.symm), fun e => by rw [e]; rfl⟩
/-- what is kept of the best so far -/
def KEPT (hd wt : Nat → Int32) (us : Int32) (bs : Nat) (w4 w5 i1 i2 : Int64) : Prop := bs = 0 ∨ (1 ≤ bs ∧ 0 < BX hd wt us bs ∧ w4 = f_X7_lowest (FX hd wt us bs) (BX hd wt us bs) 0 ∧ w5 = f_X7_lowest (FX hd wt us bs) (BX hd wt us bs) 1 ∧ i1 = FX hd wt us bs ∧ i2 = BX hd wt us bs)
theorem BX_lN {hd wt : Nat → Int32} {us : Int32} {s : Nat} (h : RG hd) (hw : RW wt) (h1 : 1 ≤ s) (hs : s < 16) (h0 : 0 < BX hd wt us s) : (∃ d : Nat, 0 < d ∧ d < 2 ^ 63 ∧ BX hd wt us s = lN d) ∧ (∃ c : Nat, c < 2 ^ 63 ∧ FX hd wt us s = lN c) := by
  obtain ⟨z, z0, hz⟩ := BX_Bd (us := us) h hw h1 hs
  obtain ⟨y, y0, hy⟩ := FX_Bd (us := us) h hw h1 hs
  have a := hz.lN (by decide) z0
  have b := hy.lN (by decide) (y0 h0)
  refine ⟨⟨z.natAbs, ?_, a.1, a.2⟩, ⟨y.natAbs, b.1, b.2⟩⟩
  rw [a.2, l0, pk_lLT (by decide) a.1] at h0
  exact h0
theorem lN_AB {c : Nat} (hc : c < 2 ^ 63) : AB (lN c) c := ⟨hc, Or.inl ⟨by rw [l0, pk_lLE (by decide) hc]; exact Nat.zero_le _, rfl⟩⟩
theorem put_FX {hd wt : Nat → Int32} {us : Int32} {s : Nat} (h : RG hd) (hw : RW wt) (h1 : 1 ≤ s) (hs : s < 16) (h0 : 0 < BX hd wt us s) : f_X1_put (FX hd wt us s) (BX hd wt us s) = (f_X7_lowest (FX hd wt us s) (BX hd wt us s) 0, f_X7_lowest (FX hd wt us s) (BX hd wt us s) 1) := by
  obtain ⟨⟨d, d0, d1, ed⟩, ⟨c, c1, ec⟩⟩ := BX_lN (us := us) h hw h1 hs h0
  rw [ed, ec]
  exact put_low (lN_AB c1) d0 d1
theorem against_FX {hd wt : Nat → Int32} {us : Int32} {s r : Nat} (h : RG hd) (hw : RW wt) (h1 : 1 ≤ s) (hs : s < 16) (h0 : 0 < BX hd wt us s) (r1 : 1 ≤ r) (hr : r < 16) (r0 : 0 < BX hd wt us r) : f_X1_against (f_X7_lowest (FX hd wt us s) (BX hd wt us s) 0) (f_X7_lowest (FX hd wt us s) (BX hd wt us s) 1) (f_X7_lowest (FX hd wt us r) (BX hd wt us r) 0) (f_X7_lowest (FX hd wt us r) (BX hd wt us r) 1) = f_X7_compare (FX hd wt us s) (BX hd wt us s) (FX hd wt us r) (BX hd wt us r) := by
  obtain ⟨⟨d, d0, d1, ed⟩, ⟨c, c1, ec⟩⟩ := BX_lN (us := us) h hw h1 hs h0
  obtain ⟨⟨d', d0', d1', ed'⟩, ⟨c', c1', ec'⟩⟩ := BX_lN (us := us) h hw r1 hr r0
  rw [ed, ec, ed', ec']
  exact against_low c1 d0 d1 c1' d0' d1'
theorem one_B0 {g : Nat → Nat → Int64} : bX (nI 1) 0 g = 1 := by
  have eB : bX (nI 1) 0 g = D3 (MXf (nI 1) 0 g) := det3_D3
  rw [eB]
  unfold D3
  have x0 : MXf (nI 1) 0 g 0 = 1 := rfl
  have x1 : MXf (nI 1) 0 g 1 = 0 := rfl
  have x2 : MXf (nI 1) 0 g 2 = 0 := rfl
  have x3 : MXf (nI 1) 0 g 3 = 0 := rfl
  have x4 : MXf (nI 1) 0 g 4 = 1 := rfl
  have x5 : MXf (nI 1) 0 g 5 = 0 := rfl
  have x6 : MXf (nI 1) 0 g 6 = 0 := rfl
  have x7 : MXf (nI 1) 0 g 7 = 0 := rfl
  have x8 : MXf (nI 1) 0 g 8 = 1 := rfl
  rw [x0, x1, x2, x3, x4, x5, x6, x7, x8]
  decide
theorem one_P0 {g : Nat → Nat → Int64} : pX (nI 1) 0 g 0 = 0 ∧ pX (nI 1) 0 g 1 = 0 ∧ pX (nI 1) 0 g 2 = 0 := by
  have y0 : SXf (nI 1) 0 g 0 = 0 := rfl
  have y1 : SXf (nI 1) 0 g 1 = 0 := rfl
  have y2 : SXf (nI 1) 0 g 2 = 0 := rfl
  unfold pX
  rw [PT_0, PT_1, PT_2, y0, y1, y2]
  refine ⟨?_, ?_, ?_⟩ <;> grind
theorem one_B {hd wt : Nat → Int32} {us : Int32} : BX hd wt us 1 = 1 := one_B0 (g := GB hd wt us 0)
theorem one_P {hd wt : Nat → Int32} {us : Int32} : XQ hd wt us 1 0 = 1 := by
  have e : XQ hd wt us 1 0 = bX (nI 1) 0 (GB hd wt us 0) - pX (nI 1) 0 (GB hd wt us 0) 0 - pX (nI 1) 0 (GB hd wt us 0) 1 - pX (nI 1) 0 (GB hd wt us 0) 2 := rfl
  obtain ⟨p0, p1, p2⟩ := one_P0 (g := GB hd wt us 0)
  rw [e, one_B0, p0, p1, p2]
  decide
theorem good_1_at {b : Int64} {pt : Nat → Int64} (hb : b = 1) (hp : pt 0 = 1) : f_X0_isGood (nI 1) b pt = 1 := by
  have ex : f_X0_isGood (nI 1) b pt = if 0 < pt 0 then (if b ≤ 0 then 0 else 1) else 0 := rfl
  rw [ex, hb, hp]
  decide
theorem find_sim {hd wt am wa ww : Nat → Int32} {us : Int32} {xpr : Nat → Int64} {n b : Nat} (hE : ENV b hd wt am wa ww) (hn : n ≤ 4) : ∀ (m i bs : Nat) (w2 w3 : Int32) (w4 w5 : Int64) (w6 w7 : Int32) (w8 : Int64) (w9 w10 w11 : Nat → Int64) (w12 w13 : Int64) (i1 i2 : Int64) (v4 : Int32) (v5 v6 : Int64) (v7 v8 : Int32) (v9 : Nat → Int32) (v10 v11 v12 : Nat → Int64), 1 ≤ i → i ≤ 2 ^ n → 2 ^ n < i + m → bs < 2 ^ n → w2 = nI bs → v7 = nI bs → w3 = v8 → MB v9 → KEPT hd wt us bs w4 w5 i1 i2 → (i = 1 ∨ 1 ≤ bs) →
    ∀ X M, L_X3_find_27 xpr (nI n) hd wt us m (nI i) w2 w3 w4 w5 w6 w7 w8 w9 w10 w11 w12 w13 = X → L_X7_layBest_18 (nI n) (nI b) am wa ww us m i1 i2 (nI i) v4 v5 v6 v7 v8 v9 v10 v11 v12 = M → ∃ bs', bs' < 2 ^ n ∧ X.2.1 = nI bs' ∧ M.2.2.2.2.2.2.1 = nI bs' ∧ X.2.2.1 = M.2.2.2.2.2.2.2.1 ∧ MB M.2.2.2.2.2.2.2.2.1 ∧ KEPT hd wt us bs' X.2.2.2.1 X.2.2.2.2.1 M.1 M.2.1 ∧ (1 ≤ n → 1 ≤ bs') := by
  intro m
  induction m with
  | zero => intro i bs w2 w3 w4 w5 w6 w7 w8 w9 w10 w11 w12 w13 i1 i2 v4 v5 v6 v7 v8 v9 v10 v11 v12 h1 h2 h3; omega
  | succ m ih =>
    intro i bs w2 w3 w4 w5 w6 w7 w8 w9 w10 w11 w12 w13 i1 i2 v4 v5 v6 v7 v8 v9 v10 v11 v12 h1 h2 h3 h4 e2 e7 e8 hMB hK hst X M hX hM
    have hp := p16 hn
    obtain ⟨a1, a2⟩ := allS hn
    rw [L_X3_find_27, a1] at hX
    rw [L_X7_layBest_18, a2] at hM
    by_cases c : i = 2 ^ n
    · rw [if_pos (nI_lt (show 2 ^ n - 1 < i by omega) (by omega))] at hX
      rw [if_pos (nI_le (show 2 ^ n ≤ i by omega) (by omega))] at hM
      subst hX
      subst hM
      refine ⟨bs, h4, e2, e7, e8, hMB, hK, fun hn1 => ?_⟩
      rcases hst with q | q
      · have : 2 ^ 1 ≤ 2 ^ n := Nat.pow_le_pow_right (by decide) hn1
        omega
      · exact q
    · have hi : i < 2 ^ n := by omega
      have hi16 : i < 16 := by omega
      rw [if_neg (fun q => absurd q (Int32.not_lt.mpr (nI_le (show i ≤ 2 ^ n - 1 by omega) (by omega))))] at hX
      rw [if_neg (nI_ge hi (by omega))] at hM
      obtain ⟨x1, x2, x3, x4, x5⟩ := solve_x (hd := hd) (wt := wt) (us := us) (pr := xpr) (mx := w9) (sd := w10) (pt := w11) h1 hi16
      obtain ⟨m1, m2, m3, m4, m5, m6⟩ := lay_m (mmb := v9) (msh := v10) (pa := v11) (go := v12) (us := us) hE hn h1 hi hMB
      have hgd : f_X0_isGood (f_X0_solve (f_X0_weigh xpr hd wt us) w9 w10 w11 (nI i)).1 (f_X0_solve (f_X0_weigh xpr hd wt us) w9 w10 w11 (nI i)).2.2.1 (f_X0_solve (f_X0_weigh xpr hd wt us) w9 w10 w11 (nI i)).2.2.2.2.2.1 = f_X7_isGood (f_X7_laySet (nI n) (nI b) am wa ww v9 v10 v11 v12 (nI i) us).1 (f_X7_laySet (nI n) (nI b) am wa ww v9 v10 v11 v12 (nI i) us).2.1 (f_X7_laySet (nI n) (nI b) am wa ww v9 v10 v11 v12 (nI i) us).2.2.2.1 (f_X7_laySet (nI n) (nI b) am wa ww v9 v10 v11 v12 (nI i) us).2.2.2.2.1 := by
        rw [x1, x3, m1, m2]
        refine good_at h1 hi16 m4 (fun t ht hb => ?_)
        have htn : t < n := by
          rcases Nat.lt_or_ge t n with q | q
          · exact q
          · have hp2 : 2 ^ n ≤ 2 ^ t := Nat.pow_le_pow_right (by decide) q
            rw [Nat.testBit_lt_two_pow (by omega)] at hb
            exact absurd hb (by decide)
        rw [m5 t htn, x4 t ht]
      have hone : i = 1 → f_X0_isGood (f_X0_solve (f_X0_weigh xpr hd wt us) w9 w10 w11 (nI i)).1 (f_X0_solve (f_X0_weigh xpr hd wt us) w9 w10 w11 (nI i)).2.2.1 (f_X0_solve (f_X0_weigh xpr hd wt us) w9 w10 w11 (nI i)).2.2.2.2.2.1 = 1 := fun q => by
        subst q
        rw [x1]
        exact good_1_at (x3.trans one_B) ((x4 0 (by decide)).trans one_P)
      dsimp only at hX hM
      generalize f_X0_solve (f_X0_weigh xpr hd wt us) w9 w10 w11 (nI i) = z at x1 x2 x3 x4 x5 hgd hone hX
      generalize f_X7_laySet (nI n) (nI b) am wa ww v9 v10 v11 v12 (nI i) us = y at m1 m2 m3 m4 m5 m6 hgd hM
      rw [nI_1] at hX hM
      rw [← hgd] at hM
      by_cases g : f_X0_isGood z.1 z.2.2.1 z.2.2.2.2.2.1 = 0
      · rw [if_pos g] at hM
        simp only [if_pos g] at hX
        have hi1 : ¬ i = 1 := fun q => by rw [hone q] at g; exact absurd g (by decide)
        exact ih (i + 1) bs w2 w3 w4 w5 _ _ _ _ _ _ _ _ i1 i2 _ _ _ v7 v8 _ _ _ _ (by omega) (by omega) (by omega) h4 e2 e7 e8 m6 hK (Or.inr (by rcases hst with q | q; exact absurd q hi1; exact q)) X M hX hM
      · rw [if_neg g] at hM
        simp only [if_neg g] at hX
        have hpos : 0 < BX hd wt us i := by
          have := good_pos (fun q => g (hgd.trans q))
          rw [m2] at this
          exact this
        have hput := put_FX (us := us) hE.2.1 hE.2.2.1 h1 hi16 hpos
        have hfa : z.2.2.2.2.2.2.1 = f_X7_lowest (FX hd wt us i) (BX hd wt us i) 0 := by rw [x5, hput]
        have hfb : z.2.2.2.2.2.2.2 = f_X7_lowest (FX hd wt us i) (BX hd wt us i) 1 := by rw [x5, hput]
        have hKn : KEPT hd wt us i z.2.2.2.2.2.2.1 z.2.2.2.2.2.2.2 y.2.2.1 y.2.1 := Or.inr ⟨h1, hpos, hfa, hfb, m3, m2⟩
        have kUp : ∀ (hw : f_X3_weighUp w2 w4 w5 z.2.2.2.2.2.2.1 z.2.2.2.2.2.2.2 (nI i) = (nI i, z.2.2.2.2.2.2.1, z.2.2.2.2.2.2.2)), L_X7_layBest_18 (nI n) (nI b) am wa ww us m y.2.2.1 y.2.1 (nI (i + 1)) y.1 y.2.1 y.2.2.1 (nI i) (v8 + 1) y.2.2.2.1 y.2.2.2.2.1 y.2.2.2.2.2.1 y.2.2.2.2.2.2 = M → ∃ bs', bs' < 2 ^ n ∧ X.2.1 = nI bs' ∧ M.2.2.2.2.2.2.1 = nI bs' ∧ X.2.2.1 = M.2.2.2.2.2.2.2.1 ∧ MB M.2.2.2.2.2.2.2.2.1 ∧ KEPT hd wt us bs' X.2.2.2.1 X.2.2.2.2.1 M.1 M.2.1 ∧ (1 ≤ n → 1 ≤ bs') := by
          intro hw hM
          rw [hw] at hX
          exact ih (i + 1) i (nI i) (w3 + 1) _ _ _ _ _ _ _ _ _ _ _ _ _ _ _ (nI i) (v8 + 1) _ _ _ _ (by omega) (by omega) (by omega) hi rfl rfl (by rw [e8]) m6 hKn (Or.inr h1) X M hX hM
        have kSt : ∀ (hb1 : 1 ≤ bs) (hw : f_X3_weighUp w2 w4 w5 z.2.2.2.2.2.2.1 z.2.2.2.2.2.2.2 (nI i) = (w2, w4, w5)), L_X7_layBest_18 (nI n) (nI b) am wa ww us m i1 i2 (nI (i + 1)) y.1 y.2.1 y.2.2.1 v7 (v8 + 1) y.2.2.2.1 y.2.2.2.2.1 y.2.2.2.2.2.1 y.2.2.2.2.2.2 = M → ∃ bs', bs' < 2 ^ n ∧ X.2.1 = nI bs' ∧ M.2.2.2.2.2.2.1 = nI bs' ∧ X.2.2.1 = M.2.2.2.2.2.2.2.1 ∧ MB M.2.2.2.2.2.2.2.2.1 ∧ KEPT hd wt us bs' X.2.2.2.1 X.2.2.2.2.1 M.1 M.2.1 ∧ (1 ≤ n → 1 ≤ bs') := by
          intro hb1 hw hM
          rw [hw] at hX
          exact ih (i + 1) bs w2 (w3 + 1) _ _ _ _ _ _ _ _ _ _ _ _ _ _ _ v7 (v8 + 1) _ _ _ _ (by omega) (by omega) (by omega) h4 e2 e7 (by rw [e8]) m6 hK (Or.inr hb1) X M hX hM
        by_cases c0 : bs = 0
        · have ew : w2 = 0 := by rw [e2, c0]; rfl
          rw [if_pos (by rw [e7, c0]; rfl)] at hM
          refine kUp ?_ hM
          unfold f_X3_weighUp f_X1_copy
          dsimp only
          rw [if_pos ew, if_pos (by decide)]
        · have hb1 : 1 ≤ bs := by omega
          have n7 : ¬ v7 = 0 := by rw [e7]; exact fun q => c0 ((nI_0_iff (by omega)).mp q)
          have n2 : ¬ w2 = 0 := by rw [e2]; exact fun q => c0 ((nI_0_iff (by omega)).mp q)
          rcases hK with q | ⟨_, k2, k3, k4, k5, k6⟩
          · exact absurd q c0
          · have hag : f_X1_against z.2.2.2.2.2.2.1 z.2.2.2.2.2.2.2 w4 w5 = f_X7_compare y.2.2.1 y.2.1 i1 i2 := by
              rw [hfa, hfb, k3, k4, k5, k6, m3, m2]
              exact against_FX (us := us) hE.2.1 hE.2.2.1 h1 hi16 hpos hb1 (by omega) k2
            have hon : (f_J6_bitCount_0f7a4 w2 ≤ f_J6_bitCount_0f7a4 (nI i)) = (f_X7_ones v7 ≤ f_X7_ones (nI i)) := by rw [e2, e7, ones_at (by omega), ones_at hi16]
            rw [if_neg n7] at hM
            generalize f_X7_compare y.2.2.1 y.2.1 i1 i2 = cv at hM hag
            have hwu : f_X3_weighUp w2 w4 w5 z.2.2.2.2.2.2.1 z.2.2.2.2.2.2.2 (nI i) = if cv < 0 then (nI i, z.2.2.2.2.2.2.1, z.2.2.2.2.2.2.2) else (if cv = 0 then (if (if f_X7_ones v7 ≤ f_X7_ones (nI i) then (0 : Int32) else 1) = 0 then (w2, w4, w5) else (nI i, z.2.2.2.2.2.2.1, z.2.2.2.2.2.2.2)) else (w2, w4, w5)) := by
              unfold f_X3_weighUp f_X1_copy
              dsimp only
              rw [if_neg n2, hag]
              simp only [hon]
            by_cases d1 : cv < 0
            · rw [if_pos d1] at hM hwu
              exact kUp hwu hM
            · rw [if_neg d1] at hM hwu
              by_cases d2 : cv = 0
              · rw [if_pos d2] at hM hwu
                by_cases d3 : f_X7_ones v7 ≤ f_X7_ones (nI i)
                · rw [if_pos d3] at hM hwu
                  rw [if_pos rfl] at hwu
                  exact kSt hb1 hwu hM
                · rw [if_neg d3] at hM hwu
                  rw [if_neg (by decide)] at hwu
                  exact kUp hwu hM
              · rw [if_neg d2] at hM hwu
                exact kSt hb1 hwu hM
