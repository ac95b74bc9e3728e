theorem isIn_eq {a b : Int32} : f_X6_isIn a b = f_X7_hasBit a b := rfl
def PA (hd : Nat → Int32) (us : Int32) (s1 s2 t e : Nat) : Prop := ∀ j : Nat, t ≤ j → j < e → ¬ f_X7_hasBit us (nI j) = 0 → hd (s1 * 4 + j) = hd (s2 * 4 + j)
theorem xaL {hd : Nat → Int32} {us : Int32} {s1 s2 : Nat} (h1 : s1 < 4) (h2 : s2 < 4) : ∀ (n t : Nat), t ≤ 4 → 4 < t + n → (PA hd us s1 s2 t 4 → L_X2_areAlike_3 hd (nI s1) (nI s2) us n (nI t) = 1) ∧ (¬ PA hd us s1 s2 t 4 → L_X2_areAlike_3 hd (nI s1) (nI s2) us n (nI t) = 0) := by
  intro n
  induction n with
  | zero => intro t a b; omega
  | succ n ih =>
    intro t a b
    rw [L_X2_areAlike_3]
    by_cases c : t = 4
    · subst c
      rw [if_pos (by decide)]
      exact ⟨fun _ => rfl, fun q => absurd (fun j x y => by omega) q⟩
    · obtain ⟨i1, i2⟩ := ih (t + 1) (by omega) (by omega)
      rw [if_neg (nle4 (by omega)), nI_1, heldOf_at (by omega) (by omega), heldOf_at (by omega) (by omega), isIn_eq]
      by_cases c1 : f_X7_hasBit us (nI t) = 0
      · rw [if_pos c1]
        refine ⟨fun q => i1 (fun j x y => q j (by omega) y), fun q => i2 (fun r => q (fun j x y z => ?_))⟩
        by_cases g : j = t
        · subst g; exact absurd c1 z
        · exact r j (by omega) y z
      · rw [if_neg c1]
        by_cases c2 : hd (s1 * 4 + t) = hd (s2 * 4 + t)
        · rw [if_pos c2]
          refine ⟨fun q => i1 (fun j x y => q j (by omega) y), fun q => i2 (fun r => q (fun j x y z => ?_))⟩
          by_cases g : j = t
          · subst g; exact c2
          · exact r j (by omega) y z
        · rw [if_neg c2]
          exact ⟨fun q => absurd (q t (Nat.le_refl t) (by omega) c1) c2, fun _ => rfl⟩
theorem maL0 {b : Int32} {am : Nat → Int32} {p q us : Int32} : ∀ (n : Nat) (i : Int32), (L_X7_areAlike_6 b am p q us n 0 i).1 = 0 := by
  intro n
  induction n with
  | zero => intro i; rfl
  | succ n ih =>
    intro i
    rw [L_X7_areAlike_6]
    split
    · rfl
    · dsimp only
      rw [if_pos rfl]
      exact ih _
theorem maL {am : Nat → Int32} {us : Int32} {s1 s2 b : Nat} (h1 : s1 < 4) (h2 : s2 < 4) (hb : b ≤ 4) : ∀ (n t : Nat), t ≤ b → b < t + n → (PA am us s1 s2 t b → (L_X7_areAlike_6 (nI b) am (nI s1) (nI s2) us n 1 (nI t)).1 = 1) ∧ (¬ PA am us s1 s2 t b → (L_X7_areAlike_6 (nI b) am (nI s1) (nI s2) us n 1 (nI t)).1 = 0) := by
  intro n
  induction n with
  | zero => intro t a c; omega
  | succ n ih =>
    intro t a c
    rw [L_X7_areAlike_6]
    by_cases d : t = b
    · subst d
      rw [if_pos (nI_le (Nat.le_refl t) (by omega))]
      exact ⟨fun _ => rfl, fun q => absurd (fun j x y => by omega) q⟩
    · obtain ⟨i1, i2⟩ := ih (t + 1) (by omega) (by omega)
      rw [if_neg (nI_ge (by omega) (by omega))]
      dsimp only
      rw [if_neg i10, nI_1, ix4 h1 (by omega), ix4 h2 (by omega)]
      by_cases c1 : f_X7_hasBit us (nI t) = 0
      · rw [if_pos c1]
        refine ⟨fun q => i1 (fun j x y => q j (by omega) y), fun q => i2 (fun r => q (fun j x y z => ?_))⟩
        by_cases g : j = t
        · subst g; exact absurd c1 z
        · exact r j (by omega) y z
      · rw [if_neg c1]
        by_cases c2 : am (s1 * 4 + t) = am (s2 * 4 + t)
        · rw [if_pos c2]
          refine ⟨fun q => i1 (fun j x y => q j (by omega) y), fun q => i2 (fun r => q (fun j x y z => ?_))⟩
          by_cases g : j = t
          · subst g; exact c2
          · exact r j (by omega) y z
        · rw [if_neg c2]
          exact ⟨fun q => absurd (q t (Nat.le_refl t) (by omega) c1) c2, fun _ => maL0 _ _⟩
theorem bit_out_f : ∀ u : Fin 16, ∀ t : Fin 4, ∀ b : Fin 5, u.val < 2 ^ b.val → b.val ≤ t.val → f_X7_hasBit (nI u.val) (nI t.val) = 0 := by decide +kernel
theorem bit_out {u t b : Nat} (hb : b ≤ 4) (hu : u < 2 ^ b) (ht : t < 4) (h : b ≤ t) : f_X7_hasBit (nI u) (nI t) = 0 := by
  have hu16 : u < 16 := by
    have : 2 ^ b ≤ 2 ^ 4 := Nat.pow_le_pow_right (by decide) hb
    omega
  exact bit_out_f ⟨u, hu16⟩ ⟨t, ht⟩ ⟨b, by omega⟩ hu h
theorem used_of {b : Nat} {q : Int32} (hb : b ≤ 4) (h : ¬ f_X7_isUsed (nI b) q = 0) : ∃ u : Nat, 1 ≤ u ∧ u < 2 ^ b ∧ q = nI u := by
  unfold f_X7_isUsed at h
  have e : (1 <<< (nI b &&& 31)) - 1 = nI (2 ^ b - 1) := by
    rcases (show b = 0 ∨ b = 1 ∨ b = 2 ∨ b = 3 ∨ b = 4 by omega) with rfl | rfl | rfl | rfl | rfl <;> decide
  rw [e] at h
  have hlt : 2 ^ b ≤ 16 := by
    have : 2 ^ b ≤ 2 ^ 4 := Nat.pow_le_pow_right (by decide) hb
    omega
  obtain ⟨n, h1, h2, h3⟩ := rng_of (lo := 1) (hi := 2 ^ b - 1) (by omega) h (by decide)
  exact ⟨n, h1, by omega, h3⟩
theorem areAlike_eq {hd am wt wa ww : Nat → Int32} {s1 s2 b u : Nat} (h1 : s1 < 4) (h2 : s2 < 4) (hb : b ≤ 4) (hu : u < 2 ^ b) (hST : ST (nI b) hd wt am wa ww) : f_X2_areAlike hd (nI s1) (nI s2) (nI u) = f_X7_areAlike (nI b) am (nI s1) (nI s2) (nI u) := by
  unfold f_X2_areAlike f_X7_areAlike
  obtain ⟨x1, x2⟩ := xaL (hd := hd) (us := nI u) h1 h2 5 0 (by omega) (by omega)
  obtain ⟨y1, y2⟩ := maL (am := am) (us := nI u) h1 h2 hb 5 0 (by omega) (by omega)
  have e : PA hd (nI u) s1 s2 0 4 ↔ PA am (nI u) s1 s2 0 b := by
    constructor
    · intro q j a c d
      rw [← hST.1 _ (by omega), ← hST.1 _ (by omega)]
      exact q j a (by omega) d
    · intro q j a c d
      rw [hST.1 _ (by omega), hST.1 _ (by omega)]
      rcases Nat.lt_or_ge j b with g | g
      · exact q j a g d
      · exact absurd (bit_out hb hu c g) d
  by_cases p : PA hd (nI u) s1 s2 0 4
  · exact (x1 p).trans (y1 (e.mp p)).symm
  · exact (x2 p).trans (y2 (fun r => p (e.mpr r))).symm
theorem alikeOf_eq {hd am wt wa ww : Nat → Int32} {s b u : Nat} (h1 : s < 4) (hb : b ≤ 4) (hu : u < 2 ^ b) (hST : ST (nI b) hd wt am wa ww) : f_X2_firstAlike hd (nI s) (nI u) = f_X7_alikeOf (nI b) am (nI s) (nI u) := by
  have a0 : (0 : Int32) + 1 = 1 := by decide
  have a1 : (1 : Int32) + 1 = 2 := by decide
  have a2 : (2 : Int32) + 1 = 3 := by decide
  have d3 : (3 : Int32) + (-1) = 2 := by decide
  have d2 : (2 : Int32) + (-1) = 1 := by decide
  have d1 : (1 : Int32) + (-1) = 0 := by decide
  have d0 : (0 : Int32) + (-1) = -1 := by decide
  have E : ∀ j : Nat, j < 4 → f_X2_areAlike hd (nI j) (nI s) (nI u) = f_X7_areAlike (nI b) am (nI j) (nI s) (nI u) := fun j hj => areAlike_eq hj h1 hb hu hST
  have E0 := E 0 (by decide)
  have E1 := E 1 (by decide)
  have E2 := E 2 (by decide)
  have S : ¬ f_X7_areAlike (nI b) am (nI s) (nI s) (nI u) = 0 := by
    have := (maL (am := am) (us := nI u) h1 h1 hb 5 0 (by omega) (by omega)).1 (fun j a c d => rfl)
    unfold f_X7_areAlike
    exact fun q => i10 (this.symm.trans q)
  unfold f_X2_firstAlike f_X7_alikeOf
  dsimp only
  rcases (show s = 0 ∨ s = 1 ∨ s = 2 ∨ s = 3 by omega) with rfl | rfl | rfl | rfl
  · rw [show nI 0 = (0 : Int32) from rfl] at *
    rw [L_X2_firstAlike_2, if_pos (by decide), L_X7_alikeOf_5, if_neg (by decide)]
    dsimp only
    rw [if_neg S, d0, L_X7_alikeOf_5, if_pos (by decide)]
  · rw [show nI 0 = (0 : Int32) from rfl, show nI 1 = (1 : Int32) from rfl] at *
    rw [L_X2_firstAlike_2, if_neg (show ¬ (1 : Int32) ≤ 0 by decide), L_X2_firstAlike_2, a0, if_pos (show (1 : Int32) ≤ 1 by decide), E0, L_X7_alikeOf_5, if_neg (show ¬ (1 : Int32) < 0 by decide)]
    dsimp only
    rw [if_neg S, d1, L_X7_alikeOf_5, if_neg (show ¬ (0 : Int32) < 0 by decide)]
    dsimp only
    rw [d0, L_X7_alikeOf_5, if_pos (show (-1 : Int32) < 0 by decide)]
  · rw [show nI 0 = (0 : Int32) from rfl, show nI 1 = (1 : Int32) from rfl, show nI 2 = (2 : Int32) from rfl] at *
    rw [L_X2_firstAlike_2, if_neg (show ¬ (2 : Int32) ≤ 0 by decide), L_X2_firstAlike_2, a0, if_neg (show ¬ (2 : Int32) ≤ 1 by decide), L_X2_firstAlike_2, a1, if_pos (show (2 : Int32) ≤ 2 by decide), E0, E1, L_X7_alikeOf_5, if_neg (show ¬ (2 : Int32) < 0 by decide)]
    dsimp only
    rw [if_neg S, d2, L_X7_alikeOf_5, if_neg (show ¬ (1 : Int32) < 0 by decide)]
    dsimp only
    rw [d1, L_X7_alikeOf_5, if_neg (show ¬ (0 : Int32) < 0 by decide)]
    dsimp only
    rw [d0, L_X7_alikeOf_5, if_pos (show (-1 : Int32) < 0 by decide)]
  · rw [show nI 0 = (0 : Int32) from rfl, show nI 1 = (1 : Int32) from rfl, show nI 2 = (2 : Int32) from rfl, show nI 3 = (3 : Int32) from rfl] at *
    rw [L_X2_firstAlike_2, if_neg (show ¬ (3 : Int32) ≤ 0 by decide), L_X2_firstAlike_2, a0, if_neg (show ¬ (3 : Int32) ≤ 1 by decide), L_X2_firstAlike_2, a1, if_neg (show ¬ (3 : Int32) ≤ 2 by decide), L_X2_firstAlike_2, a2, if_pos (show (3 : Int32) ≤ 3 by decide), E0, E1, E2, L_X7_alikeOf_5, if_neg (show ¬ (3 : Int32) < 0 by decide)]
    dsimp only
    rw [if_neg S, d3, L_X7_alikeOf_5, if_neg (show ¬ (2 : Int32) < 0 by decide)]
    dsimp only
    rw [d2, L_X7_alikeOf_5, if_neg (show ¬ (1 : Int32) < 0 by decide)]
    dsimp only
    rw [d1, L_X7_alikeOf_5, if_neg (show ¬ (0 : Int32) < 0 by decide)]
    dsimp only
    rw [d0, L_X7_alikeOf_5, if_pos (show (-1 : Int32) < 0 by decide)]
theorem q_alike {N : Nat} (xrd : Int64) (xal : Int64) (xpl : Int32) (xpc : Nat → Int32) (xsc : Int32) (xtc : Int32) (xhd : Nat → Int32) (xwt : Nat → Int32) (mpl : Int32) (msc : Int32) (mtc : Int32) (msr : Int32) (mal : Int32) (mpg : Nat → Int32) (mam : Nat → Int32) (mwa : Nat → Int32) (mww : Nat → Int32) (mmb : Nat → Int32) (h : REL N xrd xal xpl xpc xsc xtc xhd xwt mpl msc mtc msr mal mpg mam mwa mww mmb) (hN : N + 1 < 1000) (q1 : Int32) (q2 : Int32) : (f_X6_alike xsc xtc xhd q1 q2) = (f_X7_alike msc mtc mam q1 q2) ∧ REL (N + 1) xrd xal xpl xpc xsc xtc xhd xwt mpl msc mtc msr mal mpg mam mwa mww mmb := by
  refine ⟨?_, h.up hN⟩
  obtain ⟨h1, h2, h3, rfl, rfl, h6, h7, h8, h9, h10, hST, h12⟩ := h
  unfold f_X6_alike f_X7_alike
  rw [src_eq h6, used_eq]
  by_cases c1 : f_X7_isSource xsc q1 = 0
  · rw [if_pos c1, if_pos c1]
  · rw [if_neg c1, if_neg c1]
    by_cases c2 : f_X7_isUsed xtc q2 = 0
    · rw [if_pos c2, if_pos c2]
    · rw [if_neg c2, if_neg c2]
      obtain ⟨a, ha, rfl⟩ := L4_of_src h6 c1
      obtain ⟨b, hb, rfl⟩ := h7
      obtain ⟨u, hu1, hu2, rfl⟩ := used_of hb c2
      rw [alikeOf_eq ha hb hu2 hST]
