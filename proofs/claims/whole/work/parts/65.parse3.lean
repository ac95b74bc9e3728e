theorem startL : ∀ (n j : Nat) (w : Nat → Int32), j ≤ 16 → 16 < j + n → (∀ k : Nat, k < j → w k = 0) → ∀ k : Nat, k < 16 → (L_X5_start_2 n (nI j) w).2 k = 0 := by
  intro n
  induction n with
  | zero => intro j w h1 h2; omega
  | succ n ih =>
    intro j w h1 h2 h3 k hk
    rw [L_X5_start_2]
    by_cases c : j = 16
    · subst c
      rw [if_pos (by decide)]
      exact h3 k hk
    · rw [if_neg (show ¬ (16 : Int32) ≤ nI j from nI_ge (b := 16) (by omega) (by decide)), nI_1, nI_clamp (by omega)]
      refine ih (j + 1) _ (by omega) (by omega) (fun i hi => ?_) k hk
      unfold upd
      split
      · rfl
      · exact h3 i (by omega)
theorem start_at {dr : Nat → Int32} : (f_X5_start dr).1 = 0 ∧ (f_X5_start dr).2.1 = 0 ∧ (f_X5_start dr).2.2.1 = 0 ∧ (f_X5_start dr).2.2.2.1 = -1 ∧ ∀ k : Nat, k < 16 → (f_X5_start dr).2.2.2.2 k = 0 := by
  unfold f_X5_start
  exact ⟨rfl, rfl, rfl, rfl, startL 17 0 dr (by omega) (by omega) (fun k hk => by omega)⟩
theorem codeAt_at {N k : Nat} {pc : Nat → Int32} (hN : N ≤ 47) (hk : k < N) : f_X4_codeAt (nI N) pc (nI k) = pc k := by
  unfold f_X4_codeAt
  rw [if_neg (nI_pos (by omega)), if_neg (nI_ge hk (by omega)), if_neg (show ¬ (47 : Int32) ≤ nI k from nI_ge (b := 47) (by omega) (by decide)), nI_clamp (by omega)]
theorem read_sim {N : Nat} {pc : Nat → Int32} (hN : N ≤ 47) : ∀ (n k : Nat) (so tr wi nu : Int32) (dr : Nat → Int32) (ns nn nt fi nw : Int32) (na : Nat → Int32), k ≤ N → N < k + n → SIM so tr wi nu dr ns nn nt fi nw na →
    ∀ (X : Int32 × Int32 × Int32 × Int32 × Int32 × (Nat → Int32)) (M : Int32 × Int32 × Int32 × Int32 × Int32 × Int32 × (Nat → Int32)), L_X5_read_6 (nI N) pc n (nI k) so tr wi nu dr = X → L_X7_goAlong_27 (nI N) pc n (nI k) ns nn nt fi nw na = M →
    X.1 = M.1 ∧ ((M.1 = nI N ∧ SIM X.2.1 X.2.2.1 X.2.2.2.1 X.2.2.2.2.1 X.2.2.2.2.2 M.2.1 M.2.2.1 M.2.2.2.1 M.2.2.2.2.1 M.2.2.2.2.2.1 M.2.2.2.2.2.2) ∨ ∃ j : Nat, j < N ∧ M.1 = nI j) := by
  intro n
  induction n with
  | zero => intro k so tr wi nu dr ns nn nt fi nw na h1 h2; omega
  | succ n ih =>
    intro k so tr wi nu dr ns nn nt fi nw na h1 h2 hs X M hX hM
    rw [L_X5_read_6] at hX
    rw [L_X7_goAlong_27] at hM
    by_cases c : k = N
    · subst c
      rw [if_pos (nI_le (Nat.le_refl k) (by omega))] at hX hM
      subst hX hM
      exact ⟨rfl, Or.inl ⟨rfl, hs⟩⟩
    · rw [if_neg (nI_ge (by omega) (by omega))] at hX hM
      dsimp only at hX hM
      rw [codeAt_at hN (by omega)] at hX
      rw [nI_clamp (by omega)] at hM
      rcases takes_sim (q := pc k) hs with ⟨e1, e2⟩ | ⟨e1, e2, hs'⟩
      · rw [if_pos e1] at hX
        rw [if_pos e2] at hM
        subst hX hM
        exact ⟨rfl, Or.inr ⟨k, by omega, rfl⟩⟩
      · rw [if_neg e1, nI_1] at hX
        rw [if_neg e2, nI_1] at hM
        exact ih (k + 1) _ _ _ _ _ _ _ _ _ _ _ (by omega) (by omega) hs' X M hX hM
theorem SIM_0 {dr na : Nat → Int32} (h : ∀ k : Nat, k < 16 → dr k = 0) : SIM 0 0 0 (-1) dr 0 0 0 0 0 na := ⟨0, 0, 0, by omega, by omega, by omega, by omega, Or.inl rfl, nI_0.symm, nI_0.symm, nI_0.symm, nI_0.symm, nI_0.symm, nI_0.symm, Or.inl ⟨rfl, rfl, rfl⟩, fun k hk => ⟨fun q => by unfold DN at q; omega, fun _ => h k hk⟩⟩
theorem read_all {N : Nat} {pc dr na : Nat → Int32} (hN : N ≤ 47) : (f_X5_read dr (nI N) pc).1 = (f_X7_goAlong (nI N) pc na).1 ∧ (((f_X7_goAlong (nI N) pc na).1 = nI N ∧ SIM (f_X5_read dr (nI N) pc).2.1 (f_X5_read dr (nI N) pc).2.2.1 (f_X5_read dr (nI N) pc).2.2.2.1 (f_X5_read dr (nI N) pc).2.2.2.2.1 (f_X5_read dr (nI N) pc).2.2.2.2.2 (f_X7_goAlong (nI N) pc na).2.1 (f_X7_goAlong (nI N) pc na).2.2.1 (f_X7_goAlong (nI N) pc na).2.2.2.1 (f_X7_goAlong (nI N) pc na).2.2.2.2.1 (f_X7_goAlong (nI N) pc na).2.2.2.2.2.1 (f_X7_goAlong (nI N) pc na).2.2.2.2.2.2) ∨ ∃ j : Nat, j < N ∧ (f_X7_goAlong (nI N) pc na).1 = nI j) := by
  obtain ⟨s1, s2, s3, s4, s5⟩ := start_at (dr := dr)
  have hs : SIM (f_X5_start dr).1 (f_X5_start dr).2.1 (f_X5_start dr).2.2.1 (f_X5_start dr).2.2.2.1 (f_X5_start dr).2.2.2.2 0 0 0 0 0 na := by rw [s1, s2, s3, s4]; exact SIM_0 s5
  exact read_sim hN 48 0 _ _ _ _ _ _ _ _ _ _ _ (Nat.zero_le _) (by omega) hs _ _ rfl rfl
theorem q_fault {N : Nat} (xrd : Int64) (xal : Int64) (xpl : Int32) (xpc : Nat → Int32) (xdr : Nat → Int32) (xsc : Int32) (xtc : Int32) (xhd : Nat → Int32) (xwt : Nat → Int32) (mpl : Int32) (msc : Int32) (mtc : Int32) (msr : Int32) (mal : Int32) (mpg : Nat → Int32) (mam : Nat → Int32) (mwa : Nat → Int32) (mww : Nat → Int32) (mna : Nat → Int32) (mmb : Nat → Int32) (h : REL N xrd xal xpl xpc xsc xtc xhd xwt mpl msc mtc msr mal mpg mam mwa mww mmb) (hN : N + 1 < 1000) : (f_X6_fault xpl xpc xdr).1 = (f_X7_fault mpl mpg mna).1 ∧ REL (N + 1) xrd xal xpl xpc xsc xtc xhd xwt mpl msc mtc msr mal mpg mam mwa mww mmb := by
  refine ⟨?_, h.up hN⟩
  obtain ⟨⟨n, hn, rfl⟩, rfl, rfl, h4⟩ := h
  unfold f_X6_fault f_X7_fault
  exact congrArg Int32.toInt64 (read_all hn).1
theorem becL {xdr : Nat → Int32} {t : Nat} (ht : t < 4) : ∀ (n s : Nat) (w : Nat → Int32), s ≤ 4 → 4 < s + n → ∀ k : Nat, (L_X2_become_25 xdr (nI t) n (nI s) w).2 k = if k % 4 = t ∧ s ≤ k / 4 ∧ k / 4 < 4 then xdr k else w k := by
  intro n
  induction n with
  | zero => intro s w h1 h2; omega
  | succ n ih =>
    intro s w h1 h2 k
    rw [L_X2_become_25]
    by_cases c : s = 4
    · subst c
      rw [if_pos (by decide), if_neg (by omega)]
    · have e : nI s * 4 + nI t = nI (s * 4 + t) := by
        show nI s * nI 4 + nI t = _
        rw [pk_mul, nI_add]
      have ed : f_X5_draftOf xdr (nI s) (nI t) = xdr (s * 4 + t) := by
        unfold f_X5_draftOf
        rw [e, if_neg (nI_pos (by omega)), if_neg (show ¬ (16 : Int32) ≤ nI (s * 4 + t) from nI_ge (b := 16) (by omega) (by decide)), nI_clamp (by omega)]
      rw [if_neg (nle4 (by omega)), nI_1, e, ed, nI_clamp (by omega), ih (s + 1) _ (by omega) (by omega) k]
      unfold upd
      by_cases q : k = s * 4 + t
      · subst q
        rw [if_neg (by omega), if_pos rfl, if_pos (by omega)]
      · rw [if_neg q]
        by_cases g : k % 4 = t ∧ s + 1 ≤ k / 4 ∧ k / 4 < 4
        · rw [if_pos g, if_pos (by omega)]
        · rw [if_neg g, if_neg (by omega)]
theorem bec2L {xdr : Nat → Int32} : ∀ (n t : Nat) (w w3 : Nat → Int32), t ≤ 4 → 4 < t + n → (∀ k : Nat, k < 20 → (L_X2_become_18 xdr n (nI t) w w3).2.1 k = if t ≤ k % 4 then (if k < 16 then xdr k else 0) else w k) ∧ (∀ k : Nat, k < 4 → (L_X2_become_18 xdr n (nI t) w w3).2.2 k = if t ≤ k then 1 else w3 k) := by
  intro n
  induction n with
  | zero => intro t w w3 h1 h2; omega
  | succ n ih =>
    intro t w w3 h1 h2
    rw [L_X2_become_18]
    by_cases c : t = 4
    · subst c
      rw [if_pos (by decide)]
      exact ⟨fun k hk => by rw [if_neg (by omega)], fun k hk => by rw [if_neg (by omega)]⟩
    · have e : 16 + nI t = nI (16 + t) := nI_add 16 t
      rw [if_neg (nle4 (by omega))]
      dsimp only
      rw [nI_1, e, nI_clamp (by omega), nI_clamp (by omega)]
      obtain ⟨g1, g2⟩ := ih (t + 1) (upd (L_X2_become_25 xdr (nI t) 5 0 w).2 (16 + t) 0) (upd w3 t 1) (by omega) (by omega)
      refine ⟨fun k hk => ?_, fun k hk => ?_⟩
      · rw [g1 k hk]
        have hb := becL (xdr := xdr) (t := t) (by omega) 5 0 w (by omega) (by omega) k
        unfold upd
        by_cases q : k = 16 + t
        · rw [if_pos q, if_neg (by omega), if_pos (by omega), if_neg (by omega)]
        · rw [if_neg q]
          rw [show (L_X2_become_25 xdr (nI t) 5 0 w).2 k = _ from hb]
          by_cases g : t + 1 ≤ k % 4
          · rw [if_pos g, if_pos (show t ≤ k % 4 by omega)]
          · rw [if_neg g]
            by_cases g3 : k % 4 = t ∧ 0 ≤ k / 4 ∧ k / 4 < 4
            · rw [if_pos g3, if_pos (by omega), if_pos (by omega)]
            · rw [if_neg g3, if_neg (by omega)]
      · rw [g2 k hk]
        unfold upd
        by_cases q : k = t
        · rw [if_neg (by omega), if_pos q, if_pos (by omega)]
        · by_cases g : t + 1 ≤ k
          · rw [if_pos g, if_pos (by omega)]
          · rw [if_neg g, if_neg q, if_neg (by omega)]
theorem srcL {z1 : Int32 × Int32 × Int32 × Int32 × Int32 × Int32 × (Nat → Int32)} {z4 : Int32 × Int32 × Int32 × (Nat → Int32)} {A B : Nat} (hA : z1.2.1 + 1 = nI A) (hB : z4.1 = nI B) (hA4 : A ≤ 4) (hB4 : B ≤ 4) : ∀ (n j : Nat) (w : Nat → Int32), j ≤ 16 → 16 < j + n → ∀ k : Nat, k < 16 → (L_X7_sources_66 z1 z4 n (nI j) w).2 k = if j ≤ k then (if k / 4 < A ∧ k % 4 < B then z4.2.2.2 k else 0) else w k := by
  intro n
  induction n with
  | zero => intro j w h1 h2; omega
  | succ n ih =>
    intro j w h1 h2 k hk
    rw [L_X7_sources_66]
    by_cases c : j = 16
    · subst c
      rw [if_pos (by decide), if_neg (by omega)]
    · have d1 : nI j / 4 = nI (j / 4) := pk_div (d := 4) (by omega) (by decide) (by decide)
      have d2 : nI j - nI (j / 4) * 4 = nI (j % 4) := by rw [← d1]; exact pk_rem (d := 4) (by omega) (by decide) (by decide)
      rw [if_neg (show ¬ (16 : Int32) ≤ nI j from nI_ge (b := 16) (by omega) (by decide))]
      dsimp only
      rw [d1, d2, hA, hB, nI_1, nI_clamp (by omega), ih (j + 1) _ (by omega) (by omega) k hk]
      unfold upd
      by_cases q : k = j
      · subst q
        rw [if_neg (show ¬ k + 1 ≤ k by omega), if_pos rfl, if_pos (Nat.le_refl k)]
        by_cases g1 : A ≤ k / 4
        · rw [if_pos (nI_le g1 (by omega)), if_neg (show ¬ (k / 4 < A ∧ k % 4 < B) by omega)]
        · rw [if_neg (nI_ge (by omega) (by omega))]
          by_cases g2 : B ≤ k % 4
          · rw [if_pos (nI_le g2 (by omega)), if_neg (by omega)]
          · rw [if_neg (nI_ge (by omega) (by omega)), if_pos (by omega)]
      · rw [if_neg q]
        by_cases g : j + 1 ≤ k
        · rw [if_pos g, if_pos (show j ≤ k by omega)]
        · rw [if_neg g, if_neg (by omega)]
theorem srcL_b {z1 : Int32 × Int32 × Int32 × Int32 × Int32 × Int32 × (Nat → Int32)} {z4 : Int32 × Int32 × Int32 × (Nat → Int32)} : ∀ (n : Nat) (i : Int32) (w : Nat → Int32), L_X7_sources_66b z1 z4 n i w = L_X7_sources_66 z1 z4 n i w := by
  intro n
  induction n with
  | zero => intro i w; rfl
  | succ n ih =>
    intro i w
    rw [L_X7_sources_66b, L_X7_sources_66]
    dsimp only
    rw [ih]
theorem src2L : ∀ (n t : Nat) (w w3 : Nat → Int32), t ≤ 4 → 4 < t + n → (∀ k : Nat, k < 4 → (L_X7_sources_116 n (nI t) w w3).2.1 k = if t ≤ k then 0 else w k) ∧ (∀ k : Nat, k < 4 → (L_X7_sources_116 n (nI t) w w3).2.2 k = if t ≤ k then 1 else w3 k) := by
  intro n
  induction n with
  | zero => intro t w w3 h1 h2; omega
  | succ n ih =>
    intro t w w3 h1 h2
    rw [L_X7_sources_116]
    by_cases c : t = 4
    · subst c
      rw [if_pos (by decide)]
      exact ⟨fun k hk => by rw [if_neg (by omega)], fun k hk => by rw [if_neg (by omega)]⟩
    · rw [if_neg (nle4 (by omega)), nI_1, nI_clamp (by omega)]
      obtain ⟨g1, g2⟩ := ih (t + 1) (upd w t 0) (upd w3 t 1) (by omega) (by omega)
      refine ⟨fun k hk => ?_, fun k hk => ?_⟩
      · rw [g1 k hk]
        unfold upd
        by_cases q : k = t
        · rw [if_neg (by omega), if_pos q, if_pos (by omega)]
        · by_cases g : t + 1 ≤ k
          · rw [if_pos g, if_pos (by omega)]
          · rw [if_neg g, if_neg q, if_neg (by omega)]
      · rw [g2 k hk]
        unfold upd
        by_cases q : k = t
        · rw [if_neg (by omega), if_pos q, if_pos (by omega)]
        · by_cases g : t + 1 ≤ k
          · rw [if_pos g, if_pos (by omega)]
          · rw [if_neg g, if_neg q, if_neg (by omega)]
