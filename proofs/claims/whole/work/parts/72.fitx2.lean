def ME (st : Int32) (be : Nat) (g : Nat → Nat → Int64) (i j : Nat) : Int64 := if f_X7_hasBit st (nI (oth be i)) = 0 ∨ f_X7_hasBit st (nI (oth be j)) = 0 then (if i = j then 1 else 0) else g (oth be i) (oth be j)
def SE (st : Int32) (be : Nat) (g : Nat → Nat → Int64) (i : Nat) : Int64 := if f_X7_hasBit st (nI (oth be i)) = 0 then 0 else g (oth be i) 4
theorem eq22L {st : Int32} {be i : Nat} {pr : Nat → Int64} {g : Nat → Nat → Int64} (hbe : be < 4) (hi : i < 3) (hg : ∀ a b : Nat, a < 5 → b < 5 → f_X0_fromBase (nI be) pr (nI a) (nI b) = g a b) : ∀ (n j : Nat) (w : Nat → Int64), j ≤ 3 → 3 < j + n → ∀ k : Nat, (L_X0_writeEquations_22 st (nI be) pr (nI i) n (nI j) w).2 k = if i * 3 + j ≤ k ∧ k < i * 3 + 3 then ME st be g i (k - i * 3) else w k := by
  intro n
  induction n with
  | zero => intro j w h1 h2; omega
  | succ n ih =>
    intro j w h1 h2 k
    rw [L_X0_writeEquations_22]
    by_cases c : j = 3
    · subst c
      rw [if_pos (by decide), if_neg (by omega)]
    · have oi := oth_lt (be := be) hi
      have oj := oth_lt (be := be) (show j < 3 by omega)
      rw [if_neg (nle3 (by omega))]
      dsimp only
      rw [otherAt_at hbe hi, otherAt_at hbe (by omega), isIn_eq, isIn_eq, hg _ _ (by omega) (by omega), ix3 hi (by omega), nI_clamp (by omega), nI_1, ih (j + 1) _ (by omega) (by omega) k]
      have key : (if (if f_X7_hasBit st (nI (oth be i)) = 0 then (0 : Int32) else (if f_X7_hasBit st (nI (oth be j)) = 0 then 0 else 1)) = 0 then (if nI i = nI j then (1 : Int64) else 0) else g (oth be i) (oth be j)) = ME st be g i j := by
        unfold ME
        have e : (nI i = nI j) ↔ (i = j) := nI_eq (by omega) (by omega)
        simp only [e]
        by_cases h1 : f_X7_hasBit st (nI (oth be i)) = 0
        · rw [if_pos h1, if_pos rfl, if_pos (Or.inl h1)]
        · rw [if_neg h1]
          by_cases h2 : f_X7_hasBit st (nI (oth be j)) = 0
          · rw [if_pos h2, if_pos rfl, if_pos (Or.inr h2)]
          · rw [if_neg h2, if_neg i10, if_neg (fun q => q.elim h1 h2)]
      rw [key]
      unfold vp_updL
      by_cases q : k = i * 3 + j
      · subst q
        rw [if_neg (show ¬ (i * 3 + (j + 1) ≤ i * 3 + j ∧ i * 3 + j < i * 3 + 3) by omega), if_pos rfl, if_pos (show i * 3 + j ≤ i * 3 + j ∧ i * 3 + j < i * 3 + 3 by omega), show i * 3 + j - i * 3 = j by omega]
      · rw [if_neg q]
        by_cases g : i * 3 + (j + 1) ≤ k ∧ k < i * 3 + 3
        · rw [if_pos g, if_pos (show i * 3 + j ≤ k ∧ k < i * 3 + 3 by omega)]
        · rw [if_neg g, if_neg (show ¬ (i * 3 + j ≤ k ∧ k < i * 3 + 3) by omega)]
theorem eq2L {st : Int32} {be : Nat} {pr : Nat → Int64} {g : Nat → Nat → Int64} (hbe : be < 4) (hg : ∀ a b : Nat, a < 5 → b < 5 → f_X0_fromBase (nI be) pr (nI a) (nI b) = g a b) : ∀ (n i : Nat) (w w3 : Nat → Int64), i ≤ 3 → 3 < i + n → (∀ k : Nat, (L_X0_writeEquations_2 st (nI be) pr n (nI i) w w3).2.1 k = if i * 3 ≤ k ∧ k < 9 then ME st be g (k / 3) (k % 3) else w k) ∧ ∀ k : Nat, (L_X0_writeEquations_2 st (nI be) pr n (nI i) w w3).2.2 k = if i ≤ k ∧ k < 3 then SE st be g k else w3 k := by
  intro n
  induction n with
  | zero => intro j w w3 h1 h2; omega
  | succ n ih =>
    intro i w w3 h1 h2
    rw [L_X0_writeEquations_2]
    by_cases c : i = 3
    · subst c
      rw [if_pos (by decide)]
      exact ⟨fun k => by rw [if_neg (by omega)], fun k => by rw [if_neg (by omega)]⟩
    · have hi : i < 3 := by omega
      have oi := oth_lt (be := be) hi
      rw [if_neg (nle3 hi)]
      dsimp only
      rw [otherAt_at hbe hi, isIn_eq, show f_X0_fromBase (nI be) pr (nI (oth be i)) 4 = g (oth be i) 4 from hg _ 4 (by omega) (by omega), nI_clamp (by omega), nI_1]
      obtain ⟨g1, g2⟩ := ih (i + 1) (L_X0_writeEquations_22 st (nI be) pr (nI i) 4 0 w).2 (vp_updL w3 i (if f_X7_hasBit st (nI (oth be i)) = 0 then 0 else g (oth be i) 4)) (by omega) (by omega)
      refine ⟨fun k => ?_, fun k => ?_⟩
      · rw [g1 k]
        have h9 := eq22L (st := st) hbe hi hg 4 0 w (by omega) (by omega) k
        rw [show (L_X0_writeEquations_22 st (nI be) pr (nI i) 4 0 w).2 k = _ from h9]
        by_cases q : (i + 1) * 3 ≤ k ∧ k < 9
        · rw [if_pos q, if_pos (show i * 3 ≤ k ∧ k < 9 by omega)]
        · rw [if_neg q]
          by_cases q2 : i * 3 + 0 ≤ k ∧ k < i * 3 + 3
          · rw [if_pos q2, if_pos (show i * 3 ≤ k ∧ k < 9 by omega), show k / 3 = i by omega, show k % 3 = k - i * 3 by omega]
          · rw [if_neg q2, if_neg (show ¬ (i * 3 ≤ k ∧ k < 9) by omega)]
      · rw [g2 k]
        unfold vp_updL
        by_cases q : i + 1 ≤ k ∧ k < 3
        · rw [if_pos q, if_pos (show i ≤ k ∧ k < 3 by omega)]
        · rw [if_neg q]
          by_cases q2 : k = i
          · rw [if_pos q2, if_pos (show i ≤ k ∧ k < 3 by omega), q2]; rfl
          · rw [if_neg q2, if_neg (show ¬ (i ≤ k ∧ k < 3) by omega)]
theorem rem3 {i : Nat} (h : i < 2 ^ 31) : nI i - nI i / 3 * 3 = nI (i % 3) := pk_rem (d := 3) h (by decide) (by decide)
theorem entry_at {mx : Nat → Int64} {i j : Nat} (hi : i < 10) (hj : j < 10) : f_X0_entry mx (nI i) (nI j) = mx (i % 3 * 3 + j % 3) := by
  unfold f_X0_entry
  rw [rem3 (by omega), rem3 (by omega), ix3 (by omega) (by omega), if_neg (nI_pos (by omega)), if_neg (show ¬ (9 : Int32) ≤ nI (i % 3 * 3 + j % 3) from nI_ge (b := 9) (by omega) (by decide)), nI_clamp (by omega)]
def cof (mx : Nat → Int64) (i j : Nat) : Int64 := mx ((i + 1) % 3 * 3 + (j + 1) % 3) * mx ((i + 2) % 3 * 3 + (j + 2) % 3) - mx ((i + 1) % 3 * 3 + (j + 2) % 3) * mx ((i + 2) % 3 * 3 + (j + 1) % 3)
theorem cof_at {mx : Nat → Int64} {i j : Nat} (hi : i < 3) (hj : j < 3) : f_X0_cofactor mx (nI i) (nI j) = cof mx i j := by
  unfold f_X0_cofactor cof
  rw [show nI i + 1 = nI (i + 1) from nI_add i 1, show nI i + 2 = nI (i + 2) from nI_add i 2, show nI j + 1 = nI (j + 1) from nI_add j 1, show nI j + 2 = nI (j + 2) from nI_add j 2, entry_at (by omega) (by omega), entry_at (by omega) (by omega), entry_at (by omega) (by omega), entry_at (by omega) (by omega)]
def det3 (mx : Nat → Int64) : Int64 := ts (fun j => mx j * cof mx 0 j) 3 0
def PT (mx sd : Nat → Int64) (i : Nat) : Int64 := ts (fun j => cof mx i j * sd j) 3 0
theorem detL {mx : Nat → Int64} : ∀ (m n j : Nat) (acc : Int64), j + m = 3 → m < n → (L_X0_determinant_4 mx n acc (nI j)).1 = acc + ts (fun j => mx j * cof mx 0 j) m j := by
  intro m
  induction m with
  | zero =>
    intro n t acc h1 h2
    obtain ⟨n, rfl⟩ : ∃ k, n = k + 1 := ⟨n - 1, by omega⟩
    rw [show t = 3 by omega, L_X0_determinant_4, if_pos (by decide), ts]
    simp
  | succ m ih =>
    intro n t acc h1 h2
    obtain ⟨n, rfl⟩ : ∃ k, n = k + 1 := ⟨n - 1, by omega⟩
    rw [L_X0_determinant_4, if_neg (nle3 (by omega)), nI_clamp (by omega), show f_X0_cofactor mx 0 (nI t) = cof mx 0 t from cof_at (i := 0) (by omega) (by omega), nI_1, ih n (t + 1) _ (by omega) (by omega), ts]
    grind
theorem det_at {mx : Nat → Int64} : f_X0_determinant mx = det3 mx := by
  have := detL (mx := mx) 3 4 0 0 (by omega) (by omega)
  unfold f_X0_determinant det3
  refine this.trans ?_
  simp
theorem sp18L {mx sd : Nat → Int64} {i : Nat} (hi : i < 3) : ∀ (m n j : Nat) (acc : Int64), j + m = 3 → m < n → (L_X0_solveParts_18 mx sd (nI i) n acc (nI j)).1 = acc + ts (fun j => cof mx i j * sd j) m j := by
  intro m
  induction m with
  | zero =>
    intro n t acc h1 h2
    obtain ⟨n, rfl⟩ : ∃ k, n = k + 1 := ⟨n - 1, by omega⟩
    rw [show t = 3 by omega, L_X0_solveParts_18, if_pos (by decide), ts]
    simp
  | succ m ih =>
    intro n t acc h1 h2
    obtain ⟨n, rfl⟩ : ∃ k, n = k + 1 := ⟨n - 1, by omega⟩
    rw [L_X0_solveParts_18, if_neg (nle3 (by omega)), nI_clamp (by omega), cof_at hi (by omega), nI_1, ih n (t + 1) _ (by omega) (by omega), ts]
    grind
theorem sp18_at {mx sd : Nat → Int64} {i : Nat} (hi : i < 3) : (L_X0_solveParts_18 mx sd (nI i) 4 0 0).1 = PT mx sd i := by
  have := sp18L (mx := mx) (sd := sd) hi 3 4 0 0 (by omega) (by omega)
  unfold PT
  refine this.trans ?_
  simp
theorem putPart_at {pt : Nat → Int64} {s : Nat} {v : Int64} (hs : s < 4) : f_X0_putPart pt (nI s) v = vp_updL pt s v := by
  unfold f_X0_putPart
  rw [if_neg (nI_pos (by omega)), if_neg (nle4 hs), nI_clamp (by omega)]
theorem partOf_at {pt : Nat → Int64} {s : Nat} (hs : s < 4) : f_X0_partOf pt (nI s) = pt s := by
  unfold f_X0_partOf
  rw [if_neg (nI_pos (by omega)), if_neg (nle4 hs), nI_clamp (by omega)]
theorem parts_at {mx sd pt : Nat → Int64} {be : Nat} {xbe : Int64} (hbe : be < 4) : f_X0_solveParts (nI be) xbe mx sd pt = vp_updL (vp_updL (vp_updL (vp_updL pt (oth be 0) (PT mx sd 0)) (oth be 1) (PT mx sd 1)) (oth be 2) (PT mx sd 2)) be (xbe - PT mx sd 0 - PT mx sd 1 - PT mx sd 2) := by
  have o0 := oth_lt (be := be) (show 0 < 3 by omega)
  have o1 := oth_lt (be := be) (show 1 < 3 by omega)
  have o2 := oth_lt (be := be) (show 2 < 3 by omega)
  have z0 : (0 : Int32) = nI 0 := rfl
  unfold f_X0_solveParts
  dsimp only
  rw [L_X0_solveParts_7, if_neg (show ¬ (3 : Int32) ≤ 0 by decide)]
  dsimp only
  rw [L_X0_solveParts_7, if_neg (show ¬ (3 : Int32) ≤ 0 + 1 by decide)]
  dsimp only
  rw [L_X0_solveParts_7, if_neg (show ¬ (3 : Int32) ≤ 0 + 1 + 1 by decide)]
  dsimp only
  rw [L_X0_solveParts_7, if_pos (show (3 : Int32) ≤ 0 + 1 + 1 + 1 by decide)]
  rw [show (0 : Int32) + 1 + 1 = nI 2 by decide, show (0 : Int32) + 1 = nI 1 by decide]
  rw [show (L_X0_solveParts_18 mx sd 0 4 0 0).1 = PT mx sd 0 from sp18_at (i := 0) (by omega), show (L_X0_solveParts_18 mx sd (nI 1) 4 0 0).1 = PT mx sd 1 from sp18_at (i := 1) (by omega), show (L_X0_solveParts_18 mx sd (nI 2) 4 0 0).1 = PT mx sd 2 from sp18_at (i := 2) (by omega)]
  rw [show f_X0_otherAt (nI be) 0 = nI (oth be 0) from otherAt_at (i := 0) hbe (by omega), otherAt_at hbe (by omega), otherAt_at hbe (by omega), putPart_at o0, putPart_at o1, putPart_at o2, putPart_at hbe]
theorem misfit_at {pr sd pt : Nat → Int64} {be : Nat} {xbe : Int64} (hbe : be < 4) : f_X0_misfitAbove (nI be) xbe pr sd pt = xbe * f_X0_fromBase (nI be) pr 4 4 - sd 0 * pt (oth be 0) - sd 1 * pt (oth be 1) - sd 2 * pt (oth be 2) := by
  have o0 := oth_lt (be := be) (show 0 < 3 by omega)
  have o1 := oth_lt (be := be) (show 1 < 3 by omega)
  have o2 := oth_lt (be := be) (show 2 < 3 by omega)
  unfold f_X0_misfitAbove
  dsimp only
  rw [L_X0_misfitAbove_14, if_neg (show ¬ (3 : Int32) ≤ 0 by decide), L_X0_misfitAbove_14, if_neg (show ¬ (3 : Int32) ≤ 0 + 1 by decide), L_X0_misfitAbove_14, if_neg (show ¬ (3 : Int32) ≤ 0 + 1 + 1 by decide), L_X0_misfitAbove_14, if_pos (show (3 : Int32) ≤ 0 + 1 + 1 + 1 by decide)]
  rw [show (0 : Int32) + 1 + 1 = nI 2 by decide, show (0 : Int32) + 1 = nI 1 by decide]
  rw [show f_X0_otherAt (nI be) 0 = nI (oth be 0) from otherAt_at (i := 0) hbe (by omega), otherAt_at hbe (by omega), otherAt_at hbe (by omega), partOf_at o0, partOf_at o1, partOf_at o2, nI_clamp (by omega), nI_clamp (by omega), show (0 : Int32).toNatClampNeg = 0 by decide]
