theorem lp50L {hd wt am wa ww mmb : Nat → Int32} {us : Int32} {mj : Nat → Nat} {k b i : Nat} (hr : RG hd) (ham : ∀ k : Nat, k < 16 → hd k = am k) (hwa : ∀ t : Nat, t < 4 → hd (16 + t) = wa t) (hww : ∀ t : Nat, t < 4 → wt t = ww t) (hm : ∀ j : Nat, j < 4 → mmb j = nI (mj j)) (hmj : ∀ j : Nat, mj j < 4) (hk : k ≤ 4) (hb : b ≤ 4) (hi : i < 3) (hik : i + 1 < k) : ∀ (n j : Nat) (w v : Nat → Int64), j ≤ 3 → 3 < j + n → (∀ q : Nat, (L_X7_layPairs_50 (nI b) (nI k) am wa ww mmb us (nI i) n (nI j) w v).2.1 q = if i * 3 + j ≤ q ∧ q < i * 3 + 3 then PS hd wt us mj k i (q - i * 3) b 0 else w q) ∧ ∀ q : Nat, (L_X7_layPairs_50 (nI b) (nI k) am wa ww mmb us (nI i) n (nI j) w v).2.2 q = if q = i ∧ j = 0 then v i + GS hd wt us mj i 0 b 0 else v q := by
  intro n
  induction n with
  | zero => intro j w v h1 h2; omega
  | succ n ih =>
    intro j w v h1 h2
    rw [L_X7_layPairs_50]
    by_cases c : j = 3
    · subst c
      rw [if_pos (by decide)]
      exact ⟨fun q => by rw [if_neg (by omega)], fun q => by rw [if_neg (by omega)]⟩
    · rw [if_neg (nle3 (by omega)), show nI i + 1 = nI (i + 1) from nI_1 i, if_neg (nI_ge hik (by omega))]
      dsimp only
      rw [ix33 hi (by omega), show L_X7_layPairs_79 (nI b) (nI k) am wa ww mmb us (nI i) (nI j) 5 0 (vp_updL w (i * 3 + j) 0) v = _ from lp79L hr ham hwa hww hm hmj hk hb hi (by omega) b 5 0 (vp_updL w (i * 3 + j) 0) v (by omega) (by omega)]
      dsimp only
      rw [upL_upL, upL_at, nI_1]
      obtain ⟨g1, g2⟩ := ih (j + 1) (vp_updL w (i * 3 + j) (0 + PS hd wt us mj k i j b 0)) (vp_updL v i (v i + GS hd wt us mj i j b 0)) (by omega) (by omega)
      refine ⟨fun q => ?_, fun q => ?_⟩
      · rw [g1 q]
        by_cases e : q = i * 3 + j
        · subst e
          rw [if_neg (show ¬ (i * 3 + (j + 1) ≤ i * 3 + j ∧ i * 3 + j < i * 3 + 3) by omega), upL_at, if_pos (show i * 3 + j ≤ i * 3 + j ∧ i * 3 + j < i * 3 + 3 by omega), show i * 3 + j - i * 3 = j by omega]
          grind
        · rw [upL_ne e]
          by_cases e2 : i * 3 + (j + 1) ≤ q ∧ q < i * 3 + 3
          · rw [if_pos e2, if_pos (show i * 3 + j ≤ q ∧ q < i * 3 + 3 by omega)]
          · rw [if_neg e2, if_neg (show ¬ (i * 3 + j ≤ q ∧ q < i * 3 + 3) by omega)]
      · rw [g2 q, if_neg (show ¬ (q = i ∧ j + 1 = 0) by omega)]
        by_cases e : q = i
        · subst e
          rw [upL_at]
          by_cases e2 : j = 0
          · subst e2
            rw [if_pos ⟨rfl, rfl⟩]
          · rw [if_neg (fun r => e2 r.2)]
            unfold GS
            rw [if_neg e2]
            grind
        · rw [upL_ne e, if_neg (fun r => e r.1)]
theorem lp50S {hd wt am wa ww mmb : Nat → Int32} {us : Int32} {k b i n : Nat} {w v : Nat → Int64} (hk : k ≤ 4) (hi : i < 3) (hik : ¬ i + 1 < k) : (L_X7_layPairs_50 (nI b) (nI k) am wa ww mmb us (nI i) (n + 1) 0 w v).2 = (w, v) := by
  rw [L_X7_layPairs_50, if_neg (by decide), nI_1, if_pos (nI_le (by omega) (by omega))]
theorem lp36L {hd wt am wa ww mmb : Nat → Int32} {us : Int32} {mj : Nat → Nat} {k b : Nat} (hr : RG hd) (ham : ∀ k : Nat, k < 16 → hd k = am k) (hwa : ∀ t : Nat, t < 4 → hd (16 + t) = wa t) (hww : ∀ t : Nat, t < 4 → wt t = ww t) (hm : ∀ j : Nat, j < 4 → mmb j = nI (mj j)) (hmj : ∀ j : Nat, mj j < 4) (hk : k ≤ 4) (hb : b ≤ 4) : ∀ (n i : Nat) (w v : Nat → Int64), i ≤ 3 → 3 < i + n → (∀ q : Nat, (L_X7_layPairs_36 (nI b) (nI k) am wa ww mmb us n (nI i) w v).2.1 q = if i * 3 ≤ q ∧ q < 9 ∧ q / 3 + 1 < k then PS hd wt us mj k (q / 3) (q % 3) b 0 else w q) ∧ ∀ q : Nat, (L_X7_layPairs_36 (nI b) (nI k) am wa ww mmb us n (nI i) w v).2.2 q = if i ≤ q ∧ q < 3 then (if q + 1 < k then GS hd wt us mj q 0 b 0 else 0) else v q := by
  intro n
  induction n with
  | zero => intro j w v h1 h2; omega
  | succ n ih =>
    intro i w v h1 h2
    rw [L_X7_layPairs_36]
    by_cases c : i = 3
    · subst c
      rw [if_pos (by decide)]
      exact ⟨fun q => by rw [if_neg (by omega)], fun q => by rw [if_neg (by omega)]⟩
    · have hi : i < 3 := by omega
      rw [if_neg (nle3 hi), nI_clamp (by omega), nI_1]
      dsimp only
      by_cases hik : i + 1 < k
      · obtain ⟨a1, a2⟩ := lp50L (hd := hd) (wt := wt) (us := us) hr ham hwa hww hm hmj hk hb hi hik 4 0 w (vp_updL v i 0) (by omega) (by omega)
        obtain ⟨g1, g2⟩ := ih (i + 1) (L_X7_layPairs_50 (nI b) (nI k) am wa ww mmb us (nI i) 4 0 w (vp_updL v i 0)).2.1 (L_X7_layPairs_50 (nI b) (nI k) am wa ww mmb us (nI i) 4 0 w (vp_updL v i 0)).2.2 (by omega) (by omega)
        refine ⟨fun q => ?_, fun q => ?_⟩
        · rw [g1 q, show (L_X7_layPairs_50 (nI b) (nI k) am wa ww mmb us (nI i) 4 0 w (vp_updL v i 0)).2.1 q = _ from a1 q]
          by_cases e : (i + 1) * 3 ≤ q ∧ q < 9 ∧ q / 3 + 1 < k
          · rw [if_pos e, if_pos (show i * 3 ≤ q ∧ q < 9 ∧ q / 3 + 1 < k by omega)]
          · rw [if_neg e]
            by_cases e2 : i * 3 + 0 ≤ q ∧ q < i * 3 + 3
            · rw [if_pos e2, if_pos (show i * 3 ≤ q ∧ q < 9 ∧ q / 3 + 1 < k by omega), show q / 3 = i by omega, show q % 3 = q - i * 3 by omega]
            · rw [if_neg e2, if_neg (show ¬ (i * 3 ≤ q ∧ q < 9 ∧ q / 3 + 1 < k) by omega)]
        · rw [g2 q, show (L_X7_layPairs_50 (nI b) (nI k) am wa ww mmb us (nI i) 4 0 w (vp_updL v i 0)).2.2 q = _ from a2 q]
          by_cases e : i + 1 ≤ q ∧ q < 3
          · rw [if_pos e, if_pos (show i ≤ q ∧ q < 3 by omega)]
          · rw [if_neg e]
            by_cases e2 : q = i
            · subst e2
              rw [if_pos ⟨rfl, rfl⟩, if_pos (show q ≤ q ∧ q < 3 by omega), if_pos hik, upL_at]
              grind
            · rw [if_neg (fun r => e2 r.1), upL_ne e2, if_neg (show ¬ (i ≤ q ∧ q < 3) by omega)]
      · have a := lp50S (hd := hd) (wt := wt) (am := am) (wa := wa) (ww := ww) (mmb := mmb) (us := us) (b := b) (n := 3) (w := w) (v := vp_updL v i 0) hk hi hik
        rw [a]
        obtain ⟨g1, g2⟩ := ih (i + 1) w (vp_updL v i 0) (by omega) (by omega)
        refine ⟨fun q => ?_, fun q => ?_⟩
        · rw [g1 q]
          by_cases e : (i + 1) * 3 ≤ q ∧ q < 9 ∧ q / 3 + 1 < k
          · rw [if_pos e, if_pos (show i * 3 ≤ q ∧ q < 9 ∧ q / 3 + 1 < k by omega)]
          · rw [if_neg e, if_neg (show ¬ (i * 3 ≤ q ∧ q < 9 ∧ q / 3 + 1 < k) by omega)]
        · rw [g2 q]
          by_cases e : i + 1 ≤ q ∧ q < 3
          · rw [if_pos e, if_pos (show i ≤ q ∧ q < 3 by omega)]
          · rw [if_neg e]
            by_cases e2 : q = i
            · subst e2
              rw [upL_at, if_pos (show q ≤ q ∧ q < 3 by omega), if_neg hik]
            · rw [upL_ne e2, if_neg (show ¬ (i ≤ q ∧ q < 3) by omega)]
theorem lp2L : ∀ (n j : Nat) (w : Nat → Int64), j ≤ 9 → 9 < j + n → ∀ q : Nat, (L_X7_layPairs_2 n (nI j) w).2 q = if j ≤ q ∧ q < 9 then (if q / 3 = q % 3 then 1 else 0) else w q := by
  intro n
  induction n with
  | zero => intro j w h1 h2; omega
  | succ n ih =>
    intro j w h1 h2 q
    rw [L_X7_layPairs_2]
    by_cases c : j = 9
    · subst c
      rw [if_pos (by decide), if_neg (by omega)]
    · have d1 : nI j / 3 = nI (j / 3) := pk_div (d := 3) (by omega) (by decide) (by decide)
      have d2 : nI j - nI (j / 3) * 3 = nI (j % 3) := by rw [← d1]; exact rem3 (by omega)
      rw [if_neg (show ¬ (9 : Int32) ≤ nI j from nI_ge (b := 9) (by omega) (by decide))]
      dsimp only
      rw [d1, d2, nI_clamp (by omega), nI_1, ih (j + 1) _ (by omega) (by omega) q]
      have e : (nI (j / 3) = nI (j % 3)) ↔ (j / 3 = j % 3) := nI_eq (by omega) (by omega)
      simp only [e]
      by_cases g : q = j
      · subst g
        rw [if_neg (show ¬ (q + 1 ≤ q ∧ q < 9) by omega), upL_at, if_pos (show q ≤ q ∧ q < 9 by omega)]
      · rw [upL_ne g]
        by_cases g2 : j + 1 ≤ q ∧ q < 9
        · rw [if_pos g2, if_pos (show j ≤ q ∧ q < 9 by omega)]
        · rw [if_neg g2, if_neg (show ¬ (j ≤ q ∧ q < 9) by omega)]
theorem UW_out {wt : Nat → Int32} {u b t : Nat} (hb : b ≤ 4) (hu : u < 2 ^ b) (ht : t < 4) (h : b ≤ t) : UW wt (nI u) t = 0 := by
  unfold UW
  rw [if_pos (bit_out hb hu ht h)]
theorem ts_b {wt : Nat → Int32} {u b : Nat} {x y : Nat → Int64} (hb : b ≤ 4) (hu : u < 2 ^ b) : ts (fun t => UW wt (nI u) t * x t * y t) b 0 = ts (fun t => UW wt (nI u) t * x t * y t) 4 0 := by
  have h : ∀ t : Nat, t < 4 → b ≤ t → UW wt (nI u) t * x t * y t = 0 := fun t h1 h2 => by rw [UW_out hb hu h1 h2]; grind
  rcases (show b = 0 ∨ b = 1 ∨ b = 2 ∨ b = 3 ∨ b = 4 by omega) with rfl | rfl | rfl | rfl | rfl
  · simp only [ts]; rw [h 0 (by omega) (by omega), h (0 + 1) (by omega) (by omega), h (0 + 1 + 1) (by omega) (by omega), h (0 + 1 + 1 + 1) (by omega) (by omega)]; grind
  · simp only [ts]; rw [h (0 + 1) (by omega) (by omega), h (0 + 1 + 1) (by omega) (by omega), h (0 + 1 + 1 + 1) (by omega) (by omega)]; grind
  · simp only [ts]; rw [h (0 + 1 + 1) (by omega) (by omega), h (0 + 1 + 1 + 1) (by omega) (by omega)]; grind
  · simp only [ts]; rw [h (0 + 1 + 1 + 1) (by omega) (by omega)]; grind
  · rfl
def PAf (hd wt : Nat → Int32) (us : Int32) (mj : Nat → Nat) (k q : Nat) : Int64 := if q / 3 + 1 < k then (if k ≤ q % 3 + 1 then 0 else GB hd wt us (mj 0) (mj (q / 3 + 1)) (mj (q % 3 + 1))) else (if q / 3 = q % 3 then 1 else 0)
def GOf (hd wt : Nat → Int32) (us : Int32) (mj : Nat → Nat) (k q : Nat) : Int64 := if q + 1 < k then GB hd wt us (mj 0) (mj (q + 1)) 4 else 0
theorem layPairs_at {hd wt am wa ww mmb : Nat → Int32} {mj : Nat → Nat} {k b u : Nat} {pa go : Nat → Int64} (hr : RG hd) (ham : ∀ k : Nat, k < 16 → hd k = am k) (hwa : ∀ t : Nat, t < 4 → hd (16 + t) = wa t) (hww : ∀ t : Nat, t < 4 → wt t = ww t) (hm : ∀ j : Nat, j < 4 → mmb j = nI (mj j)) (hmj : ∀ j : Nat, mj j < 4) (hk : k ≤ 4) (hb : b ≤ 4) (hu : u < 2 ^ b) : (∀ q : Nat, q < 9 → (f_X7_layPairs (nI b) (nI k) am wa ww mmb pa go (nI u)).1 q = PAf hd wt (nI u) mj k q) ∧ ∀ q : Nat, q < 3 → (f_X7_layPairs (nI b) (nI k) am wa ww mmb pa go (nI u)).2 q = GOf hd wt (nI u) mj k q := by
  have h2 := lp2L 10 0 pa (by omega) (by omega)
  obtain ⟨g1, g2⟩ := lp36L (hd := hd) (wt := wt) (us := nI u) hr ham hwa hww hm hmj hk hb 4 0 (L_X7_layPairs_2 10 0 pa).2 go (by omega) (by omega)
  refine ⟨fun q hq => ?_, fun q hq => ?_⟩
  · refine (g1 q).trans ?_
    unfold PAf
    by_cases e : q / 3 + 1 < k
    · rw [if_pos (show 0 * 3 ≤ q ∧ q < 9 ∧ q / 3 + 1 < k by omega), if_pos e]
      unfold PS
      by_cases e2 : k ≤ q % 3 + 1
      · rw [if_pos e2, if_pos e2]
      · rw [if_neg e2, if_neg e2, ts_b hb hu]
        rfl
    · rw [if_neg (show ¬ (0 * 3 ≤ q ∧ q < 9 ∧ q / 3 + 1 < k) by omega), if_neg e]
      exact (h2 q).trans (if_pos (by omega))
  · refine (g2 q).trans ?_
    unfold GOf
    rw [if_pos (by omega)]
    by_cases e : q + 1 < k
    · rw [if_pos e, if_pos e]
      unfold GS
      rw [if_pos rfl, ts_b hb hu]
      rfl
    · rw [if_neg e, if_neg e]
