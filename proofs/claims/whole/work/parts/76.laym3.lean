theorem nI_inj {a b : Nat} (ha : a < 2 ^ 31) (hb : b < 2 ^ 31) (h : nI a = nI b) : a = b := by
  have q := congrArg Int32.toInt h
  rw [nI_toInt ha, nI_toInt hb] at q
  omega
theorem mdet_raw {pa go : Nat → Int64} {c : Int32} : f_X7_determinant pa go c = ((0 + f_X7_cell pa go 0 0 c * (f_X7_cell pa go 1 1 c * f_X7_cell pa go 2 2 c - f_X7_cell pa go 1 2 c * f_X7_cell pa go 2 1 c)) + f_X7_cell pa go 0 1 c * (f_X7_cell pa go 1 2 c * f_X7_cell pa go 2 0 c - f_X7_cell pa go 1 0 c * f_X7_cell pa go 2 2 c)) + f_X7_cell pa go 0 2 c * (f_X7_cell pa go 1 0 c * f_X7_cell pa go 2 1 c - f_X7_cell pa go 1 1 c * f_X7_cell pa go 2 0 c) := by
  unfold f_X7_determinant
  dsimp only
  rw [L_X7_determinant_5, if_neg (by decide), L_X7_determinant_5, if_neg (by decide), L_X7_determinant_5, if_neg (by decide), L_X7_determinant_5, if_pos (by decide)]
  rw [show ((0 : Int32) + 1) - ((0 : Int32) + 1) / 3 * 3 = 1 by decide, show ((0 : Int32) + 2) - ((0 : Int32) + 2) / 3 * 3 = 2 by decide, show (0 : Int32) + 1 = 1 by decide, show ((1 : Int32) + 1) - ((1 : Int32) + 1) / 3 * 3 = 2 by decide, show ((1 : Int32) + 2) - ((1 : Int32) + 2) / 3 * 3 = 0 by decide, show (1 : Int32) + 1 = 2 by decide, show ((2 : Int32) + 1) - ((2 : Int32) + 1) / 3 * 3 = 0 by decide, show ((2 : Int32) + 2) - ((2 : Int32) + 2) / 3 * 3 = 1 by decide]
def D3 (m : Nat → Int64) : Int64 := m 0 * (m 4 * m 8 - m 5 * m 7) + m 1 * (m 5 * m 6 - m 3 * m 8) + m 2 * (m 3 * m 7 - m 4 * m 6)
theorem cell_lit {pa go : Nat → Int64} {i j c : Nat} (hi : i < 3) (hj : j < 3) (hc : c < 4) : f_X7_cell pa go (nI i) (nI j) (nI c) = if j = c then go i else pa (i * 3 + j) := by
  unfold f_X7_cell
  rw [nI_clamp (by omega), ix33 hi hj]
  by_cases e : j = c
  · rw [if_pos e, if_pos (by rw [e])]
  · rw [if_neg e, if_neg (fun q => e (nI_inj (by omega) (by omega) q))]
def RC (pa go : Nat → Int64) (c : Nat) : Nat → Int64 := fun q => if q % 3 = c then go (q / 3) else pa q
theorem mdet_at {pa go : Nat → Int64} {c : Nat} (hc : c < 4) : f_X7_determinant pa go (nI c) = D3 (RC pa go c) := by
  rw [mdet_raw]
  have h : ∀ i j : Nat, i < 3 → j < 3 → f_X7_cell pa go (nI i) (nI j) (nI c) = RC pa go c (i * 3 + j) := by
    intro i j hi hj
    rw [cell_lit hi hj hc]
    unfold RC
    rw [show (i * 3 + j) % 3 = j by omega, show (i * 3 + j) / 3 = i by omega]
  have e00 := h 0 0 (by omega) (by omega)
  have e01 := h 0 1 (by omega) (by omega)
  have e02 := h 0 2 (by omega) (by omega)
  have e10 := h 1 0 (by omega) (by omega)
  have e11 := h 1 1 (by omega) (by omega)
  have e12 := h 1 2 (by omega) (by omega)
  have e20 := h 2 0 (by omega) (by omega)
  have e21 := h 2 1 (by omega) (by omega)
  have e22 := h 2 2 (by omega) (by omega)
  rw [show (nI 0) = 0 by decide] at e00 e01 e02 e10 e20
  rw [show (nI 1) = 1 by decide] at e01 e10 e11 e12 e21
  rw [show (nI 2) = 2 by decide] at e02 e12 e20 e21 e22
  rw [e00, e01, e02, e10, e11, e12, e20, e21, e22]
  unfold D3
  show _ = RC pa go c 0 * (RC pa go c 4 * RC pa go c 8 - RC pa go c 5 * RC pa go c 7) + RC pa go c 1 * (RC pa go c 5 * RC pa go c 6 - RC pa go c 3 * RC pa go c 8) + RC pa go c 2 * (RC pa go c 3 * RC pa go c 7 - RC pa go c 4 * RC pa go c 6)
  grind
theorem D3_congr {m m' : Nat → Int64} (h : ∀ q : Nat, q < 9 → m q = m' q) : D3 m = D3 m' := by
  unfold D3
  rw [h 0 (by omega), h 1 (by omega), h 2 (by omega), h 3 (by omega), h 4 (by omega), h 5 (by omega), h 6 (by omega), h 7 (by omega), h 8 (by omega)]
theorem RC_congr {pa pa' go go' : Nat → Int64} {c : Nat} (h1 : ∀ q : Nat, q < 9 → pa q = pa' q) (h2 : ∀ q : Nat, q < 3 → go q = go' q) {q : Nat} (hq : q < 9) : RC pa go c q = RC pa' go' c q := by
  unfold RC
  split
  · exact h2 _ (by omega)
  · exact h1 _ hq
/-- tracers that are not there have nothing -/
def ZT (b : Nat) (hd : Nat → Int32) : Prop := ∀ s t : Nat, s < 5 → t < 4 → b ≤ t → XV hd s t = 0
theorem ts_z {hd wt : Nat → Int32} {us : Int32} {b s s' o : Nat} (hb : b ≤ 4) (hz : ZT b hd) (hs : s < 5) (hs' : s' < 5) (ho : o < 5) : ts (fun t => UW wt us t * (XV hd s t - XV hd o t) * (XV hd s' t - XV hd o t)) b 0 = GB hd wt us o s s' := by
  unfold GB
  have h : ∀ t : Nat, t < 4 → b ≤ t → UW wt us t * (XV hd s t - XV hd o t) * (XV hd s' t - XV hd o t) = 0 := fun t h1 h2 => by rw [hz s t hs h1 h2, hz o t ho h1 h2]; grind
  rcases (show b = 0 ∨ b = 1 ∨ b = 2 ∨ b = 3 ∨ b = 4 by omega) with rfl | rfl | rfl | rfl | rfl
  · simp only [ts]; rw [h 0 (by omega) (by omega), h (0 + 1) (by omega) (by omega), h (0 + 1 + 1) (by omega) (by omega), h (0 + 1 + 1 + 1) (by omega) (by omega)]; grind
  · simp only [ts]; rw [h (0 + 1) (by omega) (by omega), h (0 + 1 + 1) (by omega) (by omega), h (0 + 1 + 1 + 1) (by omega) (by omega)]; grind
  · simp only [ts]; rw [h (0 + 1 + 1) (by omega) (by omega), h (0 + 1 + 1 + 1) (by omega) (by omega)]; grind
  · simp only [ts]; rw [h (0 + 1 + 1 + 1) (by omega) (by omega)]; grind
  · rfl
theorem layPairs_atz {hd wt am wa ww mmb : Nat → Int32} {us : Int32} {mj : Nat → Nat} {k b : Nat} {pa go : Nat → Int64} (hr : RG hd) (ham : ∀ k : Nat, k < 16 → hd k = am k) (hwa : ∀ t : Nat, t < 4 → hd (16 + t) = wa t) (hww : ∀ t : Nat, t < 4 → wt t = ww t) (hm : ∀ j : Nat, j < 4 → mmb j = nI (mj j)) (hmj : ∀ j : Nat, mj j < 4) (hk : k ≤ 4) (hb : b ≤ 4) (hz : ZT b hd) : (∀ q : Nat, q < 9 → (f_X7_layPairs (nI b) (nI k) am wa ww mmb pa go us).1 q = PAf hd wt us mj k q) ∧ ∀ q : Nat, q < 3 → (f_X7_layPairs (nI b) (nI k) am wa ww mmb pa go us).2 q = GOf hd wt us mj k q := by
  have h2 := lp2L 10 0 pa (by omega) (by omega)
  obtain ⟨g1, g2⟩ := lp36L (hd := hd) (wt := wt) (us := us) hr ham hwa hww hm hmj hk hb 4 0 (L_X7_layPairs_2 10 0 pa).2 go (by omega) (by omega)
  have m0 := hmj 0
  refine ⟨fun q hq => ?_, fun q hq => ?_⟩
  · refine (g1 q).trans ?_
    unfold PAf
    by_cases e : q / 3 + 1 < k
    · rw [if_pos (show 0 * 3 ≤ q ∧ q < 9 ∧ q / 3 + 1 < k by omega), if_pos e]
      unfold PS
      by_cases e2 : k ≤ q % 3 + 1
      · rw [if_pos e2, if_pos e2]
      · rw [if_neg e2, if_neg e2]
        have m1 := hmj (q / 3 + 1)
        have m2 := hmj (q % 3 + 1)
        exact ts_z hb hz (by omega) (by omega) (by omega)
    · rw [if_neg (show ¬ (0 * 3 ≤ q ∧ q < 9 ∧ q / 3 + 1 < k) by omega), if_neg e]
      exact (h2 q).trans (if_pos (by omega))
  · refine (g2 q).trans ?_
    unfold GOf
    rw [if_pos (by omega)]
    by_cases e : q + 1 < k
    · rw [if_pos e, if_pos e]
      unfold GS
      rw [if_pos rfl]
      have m1 := hmj (q + 1)
      exact ts_z hb hz (by omega) (by omega) (by omega)
    · rw [if_neg e, if_neg e]
theorem ls77L {hd wt am wa ww : Nat → Int32} {us : Int32} {mj : Nat → Nat} {y7 : Int32 × Int32 × (Nat → Int32) × (Nat → Int64)} {z : (Nat → Int64) × (Nat → Int64)} {D : Int64} {b : Nat} (hr : RG hd) (ham : ∀ k : Nat, k < 16 → hd k = am k) (hwa : ∀ t : Nat, t < 4 → hd (16 + t) = wa t) (hww : ∀ t : Nat, t < 4 → wt t = ww t) (hm : ∀ j : Nat, j < 4 → y7.2.2.1 j = nI (mj j)) (hmj : ∀ j : Nat, mj j < 4) (hb : b ≤ 4) (hD : f_X7_determinant z.1 z.2 3 = D) : ∀ (m n t : Nat) (w : Int64), t + m = b → m < n → (L_X7_laySet_77 (nI b) am wa ww us y7 z n (nI t) w).2 = w + ts (fun t => UW wt us t * (XV hd 4 t - XV hd (mj 0) t) * (XV hd 4 t - XV hd (mj 0) t)) m t * D := by
  intro m
  induction m with
  | zero =>
    intro n t w h1 h2
    obtain ⟨n, rfl⟩ : ∃ k, n = k + 1 := ⟨n - 1, by omega⟩
    rw [L_X7_laySet_77, if_pos (nI_le (by omega) (by omega))]
    simp only [ts]
    grind
  | succ m ih =>
    intro n t w h1 h2
    obtain ⟨n, rfl⟩ : ∃ k, n = k + 1 := ⟨n - 1, by omega⟩
    rw [L_X7_laySet_77, if_neg (nI_ge (by omega) (by omega))]
    dsimp only
    rw [nI_1, short_at hr ham hwa hm hmj (by omega), ih n (t + 1) _ (by omega) (by omega), nI_clamp (by omega), hD, ← hww t (by omega)]
    simp only [ts]
    have e : UW wt us t = if f_X7_hasBit us (nI t) = 0 then 0 else (wt t).toInt64 := rfl
    unfold AY
    rw [e]
    split <;> grind
