def PM (V : Nat → Nat) (S t e : Nat) : Prop := ∀ j : Nat, t ≤ j → j < e → V j % S = 0
theorem x77L {hd : Nat → Int32} {P S : Nat} {V : Nat → Nat} (hV : ∀ (w : Nat → Int32) (t : Nat), t < 4 → (∀ k : Nat, k < 16 → w k = hd k) → f_X2_heldByParts w (nI t) (nI P) = nI (V t)) (hF : f_X6_figureSum (nI P) = nI S) (hS : 0 < S) (hS2 : S < 1000) (hVb : ∀ t, V t < 100000) : ∀ (n t : Nat) (w : Nat → Int32), t ≤ 4 → 4 < t + n → (∀ k : Nat, k < 16 → w k = hd k) → (∀ k : Nat, k < 16 → (L_X6_made_77 (nI P) n (nI t) w).2 k = hd k) ∧ ∀ j : Nat, j < 4 → (L_X6_made_77 (nI P) n (nI t) w).2 (16 + j) = if t ≤ j then nI (V j / S) else w (16 + j) := by
  intro n
  induction n with
  | zero => intro t w a b; omega
  | succ n ih =>
    intro t w a b hw
    rw [L_X6_made_77]
    by_cases c : t = 4
    · subst c
      rw [if_pos (by decide)]
      exact ⟨hw, fun j hj => by rw [if_neg (by omega)]⟩
    · have hVt := hVb t
      rw [if_neg (nle4 (by omega)), nI_1, hV w t (by omega) hw, hF, (mul_of hS (by omega) (by omega)).2, putHeld_m (by omega)]
      obtain ⟨g1, g2⟩ := ih (t + 1) (upd w (16 + t) (nI (V t / S))) (by omega) (by omega) (fun k hk => by unfold upd; rw [if_neg (by omega)]; exact hw k hk)
      refine ⟨g1, fun j hj => ?_⟩
      rw [g2 j hj]
      unfold upd
      by_cases q : j = t
      · subst q
        rw [if_neg (show ¬ j + 1 ≤ j by omega), if_pos rfl, if_pos (Nat.le_refl j)]
      · by_cases q2 : t + 1 ≤ j
        · rw [if_pos q2, if_pos (show t ≤ j by omega)]
        · rw [if_neg q2, if_neg (show ¬ 16 + j = 16 + t by omega), if_neg (show ¬ t ≤ j by omega)]
theorem x44L {xal : Int64} {hd : Nat → Int32} {P S : Nat} {V : Nat → Nat} (hV : ∀ (w : Nat → Int32) (t : Nat), t < 4 → (∀ k : Nat, k < 16 → w k = hd k) → f_X2_heldByParts w (nI t) (nI P) = nI (V t)) (hF : f_X6_figureSum (nI P) = nI S) (hS : 0 < S) (hS2 : S < 1000) (hVb : ∀ t, V t < 100000) : ∀ (n t : Nat), t ≤ 4 → 4 < t + n → (PM V S t 4 → L_X6_made_44 xal hd (nI P) n (nI t) = ((nI S).toInt64, xal + 1, (L_X6_made_77 (nI P) 5 0 hd).2)) ∧ (¬ PM V S t 4 → L_X6_made_44 xal hd (nI P) n (nI t) = (-1000004, xal, hd)) := by
  intro n
  induction n with
  | zero => intro t a b; omega
  | succ n ih =>
    intro t a b
    rw [L_X6_made_44]
    by_cases c : t = 4
    · subst c
      rw [if_pos (by decide), hF]
      exact ⟨fun _ => rfl, fun q => absurd (fun j x y => by omega) q⟩
    · have hVt := hVb t
      obtain ⟨i1, i2⟩ := ih (t + 1) (by omega) (by omega)
      rw [if_neg (nle4 (by omega)), nI_1, hV hd t (by omega) (fun _ _ => rfl), hF]
      have hm := (mul_of (V := V t) hS (by omega) (by omega)).1
      by_cases q : V t % S = 0
      · rw [if_neg (fun e => (hm.mp e) q)]
        refine ⟨fun r => i1 (fun j x y => r j (by omega) y), fun r => i2 (fun r2 => r (fun j x y => ?_))⟩
        by_cases g : j = t
        · rw [g]; exact q
        · exact r2 j (by omega) y
      · rw [if_pos (hm.mpr q)]
        exact ⟨fun r => absurd (r t (Nat.le_refl t) (by omega)) q, fun _ => rfl⟩
theorem m99L {am : Nat → Int32} {a b P S : Nat} {y : Int32 × Int32 × Int32} {V : Nat → Nat} (hb : b ≤ 4) (hV : ∀ t : Nat, t < b → f_X7_sumBy (nI a) am (nI t) (nI P) = nI (V t)) (hy : y.1 = nI S) (hS : 0 < S) (hS2 : S < 1000) (hVb : ∀ t, V t < 100000) : ∀ (n t : Nat) (w : Nat → Int32), t ≤ b → b < t + n → ∀ j : Nat, j < 4 → (L_X7_made_99 (nI a) (nI b) am (nI P) y n (nI t) w).2 j = if t ≤ j ∧ j < b then nI (V j / S) else w j := by
  intro n
  induction n with
  | zero => intro t w x1 x2; omega
  | succ n ih =>
    intro t w x1 x2 j hj
    rw [L_X7_made_99]
    by_cases c : t = b
    · subst c
      rw [if_pos (nI_le (Nat.le_refl t) (by omega)), if_neg (by omega)]
    · have hVt := hVb t
      rw [if_neg (nI_ge (by omega) (by omega)), nI_1, hV t (by omega), hy, pk_div (by omega) hS (by omega), nI_clamp (by omega), ih (t + 1) _ (by omega) (by omega) j hj]
      unfold upd
      by_cases q : j = t
      · subst q
        rw [if_neg (show ¬ (j + 1 ≤ j ∧ j < b) by omega), if_pos rfl, if_pos (show j ≤ j ∧ j < b by omega)]
      · rw [if_neg q]
        by_cases q2 : t + 1 ≤ j ∧ j < b
        · rw [if_pos q2, if_pos (show t ≤ j ∧ j < b by omega)]
        · rw [if_neg q2, if_neg (show ¬ (t ≤ j ∧ j < b) by omega)]
theorem m65L {mal : Int32} {am wa : Nat → Int32} {a b P S : Nat} {y : Int32 × Int32 × Int32} {V : Nat → Nat} (hb : b ≤ 4) (hV : ∀ t : Nat, t < b → f_X7_sumBy (nI a) am (nI t) (nI P) = nI (V t)) (hy : y.1 = nI S) (hS : 0 < S) (hS2 : S < 1000) (hVb : ∀ t, V t < 100000) : ∀ (n t : Nat), t ≤ b → b < t + n → (PM V S t b → L_X7_made_65 (nI a) (nI b) mal am wa (nI P) y n (nI t) = ((nI S).toInt64, mal + 1, (L_X7_made_99 (nI a) (nI b) am (nI P) y 5 0 wa).2)) ∧ (¬ PM V S t b → L_X7_made_65 (nI a) (nI b) mal am wa (nI P) y n (nI t) = (-1000004, mal, wa)) := by
  intro n
  induction n with
  | zero => intro t x1 x2; omega
  | succ n ih =>
    intro t x1 x2
    rw [L_X7_made_65]
    by_cases c : t = b
    · subst c
      rw [if_pos (nI_le (Nat.le_refl t) (by omega))]
      dsimp only
      rw [hy]
      exact ⟨fun _ => rfl, fun q => absurd (fun j x y => by omega) q⟩
    · have hVt := hVb t
      obtain ⟨i1, i2⟩ := ih (t + 1) (by omega) (by omega)
      have hm : V t % S < 2 ^ 31 := Nat.lt_of_le_of_lt (Nat.mod_le _ _) (by omega)
      rw [if_neg (nI_ge (by omega) (by omega)), nI_1, hV t (by omega), hy, pk_rem (by omega) hS (by omega)]
      by_cases q : V t % S = 0
      · rw [if_pos (by rw [q]; exact nI_0)]
        refine ⟨fun r => i1 (fun j x y => r j (by omega) y), fun r => i2 (fun r2 => r (fun j x y => ?_))⟩
        by_cases g : j = t
        · rw [g]; exact q
        · exact r2 j (by omega) y
      · rw [if_neg (fun e => q ((nI_eq hm (by decide)).mp (e.trans nI_0.symm)))]
        exact ⟨fun r => absurd (r t (Nat.le_refl t) (by omega)) q, fun _ => rfl⟩
theorem ST_made {b S : Nat} {V : Nat → Nat} {hd wt am wa ww hd' wa' : Nat → Int32} (h : ST (nI b) hd wt am wa ww) (hb : b ≤ 4) (hV : ∀ t : Nat, t < 4 → V t / S ≤ 20) (hz : ∀ t : Nat, t < 4 → b ≤ t → V t = 0) (h1 : ∀ k : Nat, k < 16 → hd' k = hd k) (h2 : ∀ j : Nat, j < 4 → hd' (16 + j) = nI (V j / S)) (h3 : ∀ j : Nat, j < 4 → wa' j = if j < b then nI (V j / S) else wa j) : ST (nI b) hd' wt am wa' ww := by
  obtain ⟨g1, g2, g3, g4, g5, g6, g7⟩ := h
  have hz2 : ∀ t : Nat, t < 4 → ¬ t < b → wa t = 0 := fun t ht hb => g7 t ht (nI_le (by omega) (by omega))
  refine ⟨fun k hk => (h1 k hk).trans (g1 k hk), fun t ht => ?_, g3, fun k hk => ?_, g5, g6, fun t ht hc => ?_⟩
  · rw [h2 t ht, h3 t ht]
    by_cases q : t < b
    · rw [if_pos q]
    · rw [if_neg q, hz2 t ht q, hz t ht (by omega), Nat.zero_div]; exact nI_0
  · by_cases q : k < 16
    · rw [h1 k q]; exact g4 k hk
    · obtain ⟨j, hj, rfl⟩ : ∃ j : Nat, j < 4 ∧ k = 16 + j := ⟨k - 16, by omega, by omega⟩
      exact ⟨V j / S, hV j hj, h2 j hj⟩
  · have q : ¬ t < b := fun q => absurd hc (nI_ge q (by omega))
    rw [h3 t ht, if_neg q]
    exact hz2 t ht q
theorem q_made {N : Nat} (xrd : Int64) (xal : Int64) (xpl : Int32) (xpc : Nat → Int32) (xsc : Int32) (xtc : Int32) (xhd : Nat → Int32) (xwt : Nat → Int32) (mpl : Int32) (msc : Int32) (mtc : Int32) (msr : Int32) (mal : Int32) (mpg : Nat → Int32) (mam : Nat → Int32) (mwa : Nat → Int32) (mww : Nat → Int32) (mmb : Nat → Int32) (h : REL N xrd xal xpl xpc xsc xtc xhd xwt mpl msc mtc msr mal mpg mam mwa mww mmb) (hN : N + 1 < 1000) (q1 : Int32) : (f_X6_made xal xsc xhd q1).1 = (f_X7_made msc mtc mal mam mwa q1).1 ∧ REL (N + 1) xrd ((f_X6_made xal xsc xhd q1).2.1) xpl xpc xsc xtc ((f_X6_made xal xsc xhd q1).2.2) xwt mpl msc mtc msr ((f_X7_made msc mtc mal mam mwa q1).2.1) mpg mam ((f_X7_made msc mtc mal mam mwa q1).2.2) mww mmb := by
  have hup := h.up hN
  obtain ⟨h1, h2, h3, rfl, rfl, ⟨a, ha, rfl⟩, ⟨b, hb, rfl⟩, h8, h9, h10, hST, h12⟩ := h
  unfold f_X6_made f_X7_made
  by_cases c0 : nI a = 0
  · rw [if_pos c0, if_pos c0]; exact ⟨rfl, hup⟩
  have ha1 : 1 ≤ a := by
    rcases Nat.eq_zero_or_pos a with q | q
    · subst q; exact absurd nI_0 c0
    · exact q
  rw [if_neg c0, if_neg c0]
  dsimp only
  by_cases c1 : q1 < 1
  · have w0 : ∀ z : Int32, f_X7_within q1 1 z = 0 := fun z => by unfold f_X7_within; rw [if_pos c1]
    rw [if_pos c1, w0, if_pos rfl]; exact ⟨rfl, hup⟩
  · rw [if_neg c1]
    have c1' : ¬ q1 < 0 := fun q => c1 (by rw [Int32.lt_iff_toInt_lt] at q ⊢; have e0 : (0 : Int32).toInt = 0 := by decide
                                           have e1 : (1 : Int32).toInt = 1 := by decide
                                           omega)
    obtain ⟨P, hP, rfl⟩ := nI_of c1'
    have hP1 : 1 ≤ P := by
      rcases Nat.eq_zero_or_pos P with e | e
      · subst e; exact absurd (by decide) c1
      · exact e
    have hten := ten_lt (s := a) ha
    have htp : 0 < 10 ^ a := Nat.pow_pos (by decide)
    have e10 : f_X6_powerOfTen (nI a) = nI (10 ^ a) := p10L ha a 5 0 (by omega) (by omega)
    have e18 : L_X7_made_18 (nI a) (nI P) 5 0 1 0 = (nI (0 + dsum (fun _ => 1) a 0 (P / 10 ^ 0)), nI (10 ^ a), nI a) := m18L ha hP a 5 0 0 (by omega) (by omega)
    rw [Nat.zero_add, Nat.pow_zero, Nat.div_one] at e18
    rw [e10, e18]
    dsimp only
    have ep : nI (10 ^ a) - 1 = nI (10 ^ a - 1) := pk_sub (a := 10 ^ a) (b := 1) (by omega)
    rw [ep]
    unfold f_X7_within
    rw [if_neg c1]
    rcases Nat.lt_or_ge P (10 ^ a) with c2 | c2
    · rw [if_pos (nI_lt c2 (by omega)), if_neg (show ¬ nI (10 ^ a - 1) < nI P from nI_nlt (by omega) (by omega)), if_neg i10]
      have hP4 : P < 10 ^ 4 := Nat.lt_of_lt_of_le c2 (by have := ten_lt (s := a) ha; omega)
      have eS : dsum (fun _ => 1) 4 0 P = dsum (fun _ => 1) a 0 P := by
        have := dsum_more (h := fun _ => 1) a (4 - a) 0 P c2
        rw [show a + (4 - a) = 4 by omega] at this
        exact this
      have hS : 0 < dsum (fun _ => 1) a 0 P := dsum_pos a 0 P c2 (by omega)
      have hS2 : dsum (fun _ => 1) a 0 P < 1000 := by have := dsum_1le a 0 P; omega
      have hF : f_X6_figureSum (nI P) = nI (dsum (fun _ => 1) a 0 P) := by
        have := figL 4 5 0 0 P (by omega) (by omega) hP
        rw [Nat.zero_add, eS] at this
        exact this
      obtain ⟨hv, hh1, hh2⟩ : ∃ hv : Nat → Nat → Nat, (∀ t s : Nat, t < 4 → s < 4 → xhd (s * 4 + t) = nI (hv t s)) ∧ (∀ t s : Nat, hv t s ≤ 20) := by
        refine ⟨fun t s => if s < 4 ∧ t < 4 then (xhd (s * 4 + t)).toNatClampNeg else 0, fun t s ht hs => ?_, fun t s => ?_⟩
        · dsimp only
          rw [if_pos (show s < 4 ∧ t < 4 from ⟨hs, ht⟩)]
          obtain ⟨n, hn, e⟩ := hST.2.2.2.1 (s * 4 + t) (by omega)
          rw [e, nI_clamp (by omega)]
        · dsimp only
          by_cases q : s < 4 ∧ t < 4
          · rw [if_pos q]
            obtain ⟨n, hn, e⟩ := hST.2.2.2.1 (s * 4 + t) (by omega)
            rw [e, nI_clamp (by omega)]; exact hn
          · rw [if_neg q]; omega
      have hVx : ∀ (w : Nat → Int32) (t : Nat), t < 4 → (∀ k : Nat, k < 16 → w k = xhd k) → f_X2_heldByParts w (nI t) (nI P) = nI (dsum (hv t) 4 0 P) := fun w t ht hw => by
        have := hbpL (hd := w) (t := t) (h := hv t) (fun s hs => (hw _ (by omega)).trans (hh1 t s ht hs)) ht 4 5 0 0 P (by omega) (by omega) hP
        rw [Nat.zero_add] at this
        exact this
      have hVm : ∀ t : Nat, t < b → f_X7_sumBy (nI a) mam (nI t) (nI P) = nI (dsum (hv t) 4 0 P) := fun t ht => by
        have := sumL (am := mam) (t := t) (a := a) (h := hv t) (fun s hs => (hST.1 _ (by omega)).symm.trans (hh1 t s (by omega) hs)) (by omega) ha a 5 0 0 P (by omega) (by omega) hP
        have e := dsum_more (h := hv t) a (4 - a) 0 P c2
        rw [show a + (4 - a) = 4 by omega] at e
        rw [Nat.zero_add, ← e] at this
        exact this
      have hle : ∀ t : Nat, dsum (hv t) 4 0 P ≤ 20 * dsum (fun _ => 1) a 0 P := fun t => by rw [← eS]; exact dsum_le (hh2 t) 4 0 P
      have hVb : ∀ t : Nat, dsum (hv t) 4 0 P < 100000 := fun t => by have := hle t; omega
      have hz : ∀ t : Nat, t < 4 → b ≤ t → dsum (hv t) 4 0 P = 0 := fun t ht hbt => by
        have z : ∀ s : Nat, s < 4 → hv t s = 0 := fun s hs => by
          have e := hST.2.2.2.2.2.1 s t hs ht (nI_le hbt (by omega))
          rw [← hST.1 _ (by omega), Nat.mul_comm 4 s, hh1 t s ht hs] at e
          exact (nI_eq (by have := hh2 t s; omega) (by decide)).mp (e.trans nI_0.symm)
        rw [dsum, dsum, dsum, dsum, dsum, z 0 (by omega), z (0 + 1) (by omega), z (0 + 1 + 1) (by omega), z (0 + 1 + 1 + 1) (by omega)]
        simp
      obtain ⟨x1, x2⟩ := x44L (xal := xal) hVx hF hS hS2 hVb 5 0 (by omega) (by omega)
      obtain ⟨y1, y2⟩ := m65L (mal := mal) (wa := mwa) (y := (nI (dsum (fun _ => 1) a 0 P), nI (10 ^ a), nI a)) hb hVm rfl hS hS2 hVb 5 0 (by omega) (by omega)
      have hPM : PM (fun t => dsum (hv t) 4 0 P) (dsum (fun _ => 1) a 0 P) 0 4 ↔ PM (fun t => dsum (hv t) 4 0 P) (dsum (fun _ => 1) a 0 P) 0 b := by
        refine ⟨fun r j x y => r j x (by omega), fun r j x y => ?_⟩
        rcases Nat.lt_or_ge j b with g | g
        · exact r j x g
        · dsimp only
          rw [hz j y g, Nat.zero_mod]
      by_cases p : PM (fun t => dsum (hv t) 4 0 P) (dsum (fun _ => 1) a 0 P) 0 4
      · have ex := x1 p
        have ey := y1 (hPM.mp p)
        rw [show L_X6_made_44 xal xhd (nI P) 5 0 = _ from ex, show L_X7_made_65 (nI a) (nI b) mal mam mwa (nI P) (nI (dsum (fun _ => 1) a 0 P), nI (10 ^ a), nI a) 5 0 = _ from ey]
        obtain ⟨k1, k2⟩ := x77L hVx hF hS hS2 hVb 5 0 xhd (by omega) (by omega) (fun _ _ => rfl)
        have k3 := m99L (y := (nI (dsum (fun _ => 1) a 0 P), nI (10 ^ a), nI a)) hb hVm rfl hS hS2 hVb 5 0 mwa (by omega) (by omega)
        refine ⟨rfl, h1, h2, h3, rfl, rfl, ⟨a, ha, rfl⟩, ⟨b, hb, rfl⟩, h8.mono (by omega), h9.inc, h10, ST_made (V := fun t => dsum (hv t) 4 0 P) (S := dsum (fun _ => 1) a 0 P) hST hb (fun t ht => ?_) hz k1 (fun j hj => ?_) (fun j hj => ?_), hN, h12.2⟩
        · exact Nat.div_le_of_le_mul (by rw [Nat.mul_comm]; exact hle t)
        · exact (k2 j hj).trans (if_pos (Nat.zero_le _))
        · refine (k3 j hj).trans ?_
          by_cases q : j < b
          · rw [if_pos ⟨Nat.zero_le _, q⟩, if_pos q]
          · rw [if_neg (fun r => q r.2), if_neg q]
      · have ex := x2 p
        have ey := y2 (fun r => p (hPM.mpr r))
        rw [show L_X6_made_44 xal xhd (nI P) 5 0 = _ from ex, show L_X7_made_65 (nI a) (nI b) mal mam mwa (nI P) (nI (dsum (fun _ => 1) a 0 P), nI (10 ^ a), nI a) 5 0 = _ from ey]
        exact ⟨rfl, hup⟩
    · rw [if_neg (show ¬ nI P < nI (10 ^ a) from nI_nlt c2 hP), if_pos (show nI (10 ^ a - 1) < nI P from nI_lt (by omega) hP), if_pos rfl]
      exact ⟨rfl, hup⟩
