def ts (f : Nat → Int64) : Nat → Nat → Int64
  | 0, _ => 0
  | m + 1, t => f t + ts f m (t + 1)
def UW (wt : Nat → Int32) (us : Int32) (t : Nat) : Int64 := if f_X7_hasBit us (nI t) = 0 then 0 else (wt t).toInt64
def XV (hd : Nat → Int32) (s t : Nat) : Int64 := (hd (s * 4 + t)).toInt64
def PR (hd wt : Nat → Int32) (us : Int32) (a b : Nat) : Int64 := ts (fun t => UW wt us t * XV hd a t * XV hd b t) 4 0
def GB (hd wt : Nat → Int32) (us : Int32) (be a b : Nat) : Int64 := ts (fun t => UW wt us t * (XV hd a t - XV hd be t) * (XV hd b t - XV hd be t)) 4 0
theorem prodL {hd wt : Nat → Int32} {us : Int32} {a b : Nat} (ha : a < 5) (hb : b < 5) : ∀ (m n t : Nat) (acc : Int64), t + m = 4 → m < n → (L_X2_product_6 hd wt (nI a) (nI b) us n acc (nI t)).1 = acc + ts (fun t => UW wt us t * XV hd a t * XV hd b t) m t := by
  intro m
  induction m with
  | zero =>
    intro n t acc h1 h2
    obtain ⟨n, rfl⟩ : ∃ k, n = k + 1 := ⟨n - 1, by omega⟩
    rw [show t = 4 by omega, L_X2_product_6, if_pos (by decide), ts]
    simp
  | succ m ih =>
    intro n t acc h1 h2
    obtain ⟨n, rfl⟩ : ∃ k, n = k + 1 := ⟨n - 1, by omega⟩
    rw [L_X2_product_6, if_neg (nle4 (by omega))]
    dsimp only
    rw [isIn_eq, weightOf_at (by omega), heldOf_at ha (by omega), heldOf_at hb (by omega), nI_1, ih n (t + 1) _ (by omega) (by omega), ts]
    unfold UW XV
    split <;> grind
theorem product_at {hd wt : Nat → Int32} {us : Int32} {a b : Nat} (ha : a < 5) (hb : b < 5) : f_X2_product hd wt (nI a) (nI b) us = PR hd wt us a b := by
  have := prodL (hd := hd) (wt := wt) (us := us) ha hb 4 5 0 0 (by omega) (by omega)
  unfold f_X2_product PR
  refine this.trans ?_
  simp
theorem nle5' {a : Nat} (h : a < 5) : ¬ (5 : Int32) ≤ nI a := nle5 h
theorem ix5 {a b : Nat} (ha : a < 5) (hb : b < 5) : nI a * 5 + nI b = nI (a * 5 + b) := by
  show nI a * nI 5 + nI b = _
  rw [pk_mul, nI_add]
theorem we9L {hd wt : Nat → Int32} {us : Int32} {a : Nat} (ha : a < 5) : ∀ (n b : Nat) (w : Nat → Int64), b ≤ 5 → 5 < b + n → ∀ k : Nat, (L_X0_weigh_10 hd wt us (nI a) n (nI b) w).2 k = if a * 5 + b ≤ k ∧ k < a * 5 + 5 then PR hd wt us a (k - a * 5) else w k := by
  intro n
  induction n with
  | zero => intro b w h1 h2; omega
  | succ n ih =>
    intro b w h1 h2 k
    rw [L_X0_weigh_10]
    by_cases c : b = 5
    · subst c
      rw [if_pos (by decide), if_neg (by omega)]
    · rw [if_neg (nle5 (by omega)), nI_1, ix5 ha (by omega), nI_clamp (by omega), product_at ha (by omega), ih (b + 1) _ (by omega) (by omega) k]
      unfold vp_updL
      by_cases q : k = a * 5 + b
      · subst q
        rw [if_neg (show ¬ (a * 5 + (b + 1) ≤ a * 5 + b ∧ a * 5 + b < a * 5 + 5) by omega), if_pos rfl, if_pos (show a * 5 + b ≤ a * 5 + b ∧ a * 5 + b < a * 5 + 5 by omega), show a * 5 + b - a * 5 = b by omega]
      · rw [if_neg q]
        by_cases g : a * 5 + (b + 1) ≤ k ∧ k < a * 5 + 5
        · rw [if_pos g, if_pos (show a * 5 + b ≤ k ∧ k < a * 5 + 5 by omega)]
        · rw [if_neg g, if_neg (show ¬ (a * 5 + b ≤ k ∧ k < a * 5 + 5) by omega)]
theorem we2L {hd wt : Nat → Int32} {us : Int32} : ∀ (n a : Nat) (w : Nat → Int64), a ≤ 5 → 5 < a + n → ∀ k : Nat, (L_X0_weigh_2 hd wt us n (nI a) w).2 k = if a * 5 ≤ k ∧ k < 25 then PR hd wt us (k / 5) (k % 5) else w k := by
  intro n
  induction n with
  | zero => intro b w h1 h2; omega
  | succ n ih =>
    intro a w h1 h2 k
    rw [L_X0_weigh_2]
    by_cases c : a = 5
    · subst c
      rw [if_pos (by decide), if_neg (by omega)]
    · rw [if_neg (nle5 (by omega))]
      dsimp only
      rw [nI_1, ih (a + 1) _ (by omega) (by omega) k]
      have h9 := we9L (hd := hd) (wt := wt) (us := us) (a := a) (by omega) 6 0 w (by omega) (by omega) k
      rw [show (L_X0_weigh_10 hd wt us (nI a) 6 0 w).2 k = _ from h9]
      by_cases g : (a + 1) * 5 ≤ k ∧ k < 25
      · rw [if_pos g, if_pos (show a * 5 ≤ k ∧ k < 25 by omega)]
      · rw [if_neg g]
        by_cases g2 : a * 5 + 0 ≤ k ∧ k < a * 5 + 5
        · rw [if_pos g2, if_pos (show a * 5 ≤ k ∧ k < 25 by omega), show k / 5 = a by omega, show k % 5 = k - a * 5 by omega]
        · rw [if_neg g2, if_neg (show ¬ (a * 5 ≤ k ∧ k < 25) by omega)]
theorem weigh_at {pr : Nat → Int64} {hd wt : Nat → Int32} {us : Int32} {a b : Nat} (ha : a < 5) (hb : b < 5) : f_X0_weigh pr hd wt us (a * 5 + b) = PR hd wt us a b := by
  have h := we2L (hd := hd) (wt := wt) (us := us) 6 0 pr (by omega) (by omega) (a * 5 + b)
  unfold f_X0_weigh
  refine h.trans ?_
  rw [if_pos (show 0 * 5 ≤ a * 5 + b ∧ a * 5 + b < 25 by omega), show (a * 5 + b) / 5 = a by omega, show (a * 5 + b) % 5 = b by omega]
theorem productOf_at {pr : Nat → Int64} {a b : Nat} (ha : a < 5) (hb : b < 5) : f_X0_productOf pr (nI a) (nI b) = pr (a * 5 + b) := by
  unfold f_X0_productOf
  rw [ix5 ha hb, if_neg (nI_pos (by omega)), if_neg (show ¬ (25 : Int32) ≤ nI (a * 5 + b) from nI_ge (b := 25) (by omega) (by decide)), nI_clamp (by omega)]
theorem fromBase_at {pr : Nat → Int64} {hd wt : Nat → Int32} {us : Int32} {be a b : Nat} (hbe : be < 5) (ha : a < 5) (hb : b < 5) : f_X0_fromBase (nI be) (f_X0_weigh pr hd wt us) (nI a) (nI b) = GB hd wt us be a b := by
  unfold f_X0_fromBase
  rw [productOf_at ha hb, productOf_at ha hbe, productOf_at hbe hb, productOf_at hbe hbe, weigh_at ha hb, weigh_at ha hbe, weigh_at hbe hb, weigh_at hbe hbe]
  unfold PR GB
  simp only [ts]
  grind
theorem GB_symm {hd wt : Nat → Int32} {us : Int32} {be a b : Nat} : GB hd wt us be a b = GB hd wt us be b a := by
  unfold GB
  simp only [ts]
  grind
def oth (be i : Nat) : Nat := if be ≤ i then i + 1 else i
theorem otherAt_at {be i : Nat} (hb : be < 4) (hi : i < 3) : f_X0_otherAt (nI be) (nI i) = nI (oth be i) := by
  unfold f_X0_otherAt oth
  by_cases h : be ≤ i
  · rw [if_pos (nI_le h (by omega)), if_pos h, nI_1]
  · rw [if_neg (nI_ge (by omega) (by omega)), if_neg h]
theorem oth_lt {be i : Nat} (hi : i < 3) : oth be i < 4 := by unfold oth; split <;> omega
theorem ix3 {i j : Nat} (hi : i < 3) (hj : j < 3) : nI i * 3 + nI j = nI (i * 3 + j) := by
  show nI i * nI 3 + nI j = _
  rw [pk_mul, nI_add]
theorem nle3 {a : Nat} (h : a < 3) : ¬ (3 : Int32) ≤ nI a := nI_ge (b := 3) h (by decide)
