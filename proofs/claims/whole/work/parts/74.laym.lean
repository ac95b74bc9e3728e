theorem sub64 {a b : Nat} (ha : a < 2 ^ 30) (hb : b < 2 ^ 30) : (nI a - nI b).toInt64 = (nI a).toInt64 - (nI b).toInt64 := by
  apply Int64.toInt_inj.mp
  rw [Int32.toInt_toInt64, pk_sub_toInt ha hb, nI_l (by omega), nI_l (by omega), Int64.toInt_sub, lN_toInt (by omega), lN_toInt (by omega)]
  exact (Int.bmod_eq_of_le (by omega) (by omega)).symm
/-- a state's numbers, as both sides see them -/
def RG (hd : Nat → Int32) : Prop := ∀ k : Nat, k < 20 → ∃ n : Nat, n ≤ 20 ∧ hd k = nI n
def AP (hd : Nat → Int32) (mj : Nat → Nat) (i t : Nat) : Int64 := XV hd (mj i) t - XV hd (mj 0) t
def AY (hd : Nat → Int32) (mj : Nat → Nat) (t : Nat) : Int64 := XV hd 4 t - XV hd (mj 0) t
theorem apart_at {hd am mmb : Nat → Int32} {mj : Nat → Nat} {i t : Nat} (hr : RG hd) (ham : ∀ k : Nat, k < 16 → hd k = am k) (hm : ∀ j : Nat, j < 4 → mmb j = nI (mj j)) (hmj : ∀ j : Nat, mj j < 4) (hi : i < 4) (ht : t < 4) : f_X7_apart am mmb (nI i) (nI t) = AP hd mj i t := by
  unfold f_X7_apart AP XV
  rw [nI_clamp (by omega), hm i hi, show (0 : Int32).toNatClampNeg = 0 by decide, hm 0 (by omega), ix4 (hmj i) ht, ix4 (hmj 0) ht]
  have b1 := hmj i
  have b2 := hmj 0
  rw [← ham _ (by omega), ← ham _ (by omega)]
  obtain ⟨x, hx, ex⟩ := hr (mj i * 4 + t) (by omega)
  obtain ⟨y, hy, ey⟩ := hr (mj 0 * 4 + t) (by omega)
  rw [ex, ey, sub64 (by omega) (by omega)]
theorem short_at {hd am wa mmb : Nat → Int32} {mj : Nat → Nat} {t : Nat} (hr : RG hd) (ham : ∀ k : Nat, k < 16 → hd k = am k) (hwa : ∀ t : Nat, t < 4 → hd (16 + t) = wa t) (hm : ∀ j : Nat, j < 4 → mmb j = nI (mj j)) (hmj : ∀ j : Nat, mj j < 4) (ht : t < 4) : f_X7_short0 am wa mmb (nI t) = AY hd mj t := by
  unfold f_X7_short0 AY XV
  rw [nI_clamp (by omega), show (0 : Int32).toNatClampNeg = 0 by decide, hm 0 (by omega), ix4 (hmj 0) ht]
  have b2 := hmj 0
  rw [← ham _ (by omega), ← hwa t ht]
  obtain ⟨x, hx, ex⟩ := hr (16 + t) (by omega)
  obtain ⟨y, hy, ey⟩ := hr (mj 0 * 4 + t) (by omega)
  rw [show 4 * 4 + t = 16 + t by omega, ex, ey, sub64 (by omega) (by omega)]
theorem upL_upL {f : Nat → Int64} {k : Nat} {x y : Int64} : vp_updL (vp_updL f k x) k y = vp_updL f k y := by
  funext j
  unfold vp_updL
  split <;> rfl
theorem upL_self {f : Nat → Int64} {k : Nat} : vp_updL f k (f k) = f := by
  funext j
  unfold vp_updL
  split
  · rename_i h; rw [h]
  · rfl
theorem upL_at {f : Nat → Int64} {k : Nat} {x : Int64} : vp_updL f k x k = x := by unfold vp_updL; rw [if_pos rfl]
theorem upL_ne {f : Nat → Int64} {k j : Nat} {x : Int64} (h : ¬ j = k) : vp_updL f k x j = f j := by unfold vp_updL; rw [if_neg h]
def PS (hd wt : Nat → Int32) (us : Int32) (mj : Nat → Nat) (k i j m t : Nat) : Int64 := if k ≤ j + 1 then 0 else ts (fun t => UW wt us t * AP hd mj (i + 1) t * AP hd mj (j + 1) t) m t
def GS (hd wt : Nat → Int32) (us : Int32) (mj : Nat → Nat) (i j m t : Nat) : Int64 := if j = 0 then ts (fun t => UW wt us t * AP hd mj (i + 1) t * AY hd mj t) m t else 0
theorem ix33 {i j : Nat} (hi : i < 3) (hj : j < 3) : (3 * nI i + nI j).toNatClampNeg = i * 3 + j := by
  show (nI 3 * nI i + nI j).toNatClampNeg = _
  rw [pk_mul, nI_add, nI_clamp (by omega), Nat.mul_comm]
theorem lp79L {hd wt am wa ww mmb : Nat → Int32} {us : Int32} {mj : Nat → Nat} {k b i j : Nat} (hr : RG hd) (ham : ∀ k : Nat, k < 16 → hd k = am k) (hwa : ∀ t : Nat, t < 4 → hd (16 + t) = wa t) (hww : ∀ t : Nat, t < 4 → wt t = ww t) (hm : ∀ j : Nat, j < 4 → mmb j = nI (mj j)) (hmj : ∀ j : Nat, mj j < 4) (hk : k ≤ 4) (hb : b ≤ 4) (hi : i < 3) (hj : j < 3) : ∀ (m n t : Nat) (w v : Nat → Int64), t + m = b → m < n → L_X7_layPairs_79 (nI b) (nI k) am wa ww mmb us (nI i) (nI j) n (nI t) w v = (nI b, vp_updL w (i * 3 + j) (w (i * 3 + j) + PS hd wt us mj k i j m t), vp_updL v i (v i + GS hd wt us mj i j m t)) := by
  intro m
  induction m with
  | zero =>
    intro n t w v h1 h2
    obtain ⟨n, rfl⟩ : ∃ k, n = k + 1 := ⟨n - 1, by omega⟩
    have e1 : PS hd wt us mj k i j 0 t = 0 := by unfold PS; split <;> rfl
    have e2 : GS hd wt us mj i j 0 t = 0 := by unfold GS; split <;> rfl
    rw [L_X7_layPairs_79, if_pos (nI_le (by omega) (by omega)), e1, e2, show t = b by omega]
    have a1 : w (i * 3 + j) + 0 = w (i * 3 + j) := by grind
    have a2 : v i + 0 = v i := by grind
    rw [a1, a2, upL_self, upL_self]
  | succ m ih =>
    intro n t w v h1 h2
    obtain ⟨n, rfl⟩ : ∃ k, n = k + 1 := ⟨n - 1, by omega⟩
    rw [L_X7_layPairs_79, if_neg (nI_ge (by omega) (by omega))]
    dsimp only
    rw [show nI i + 1 = nI (i + 1) from nI_1 i, show nI j + 1 = nI (j + 1) from nI_1 j, nI_1, apart_at hr ham hm hmj (by omega) (by omega), apart_at hr ham hm hmj (by omega) (by omega), short_at hr ham hwa hm hmj (by omega), ix33 hi hj, nI_clamp (by omega), nI_clamp (by omega), ih n (t + 1) _ _ (by omega) (by omega), upL_upL, upL_upL, upL_at, upL_at]
    have hU : (if f_X7_hasBit us (nI t) = 0 then 0 else (ww t).toInt64 * AP hd mj (i + 1) t) = UW wt us t * AP hd mj (i + 1) t := by
      unfold UW
      rw [hww t (by omega)]
      split <;> grind
    rw [hU]
    have c1 : (nI k ≤ nI (j + 1)) ↔ (k ≤ j + 1) := nI_leI (by omega) (by omega)
    have c2 : (nI j = 0) ↔ (j = 0) := nI_eq (b := 0) (by omega) (by decide)
    simp only [c1, c2]
    have p1 : w (i * 3 + j) + (if k ≤ j + 1 then 0 else UW wt us t * AP hd mj (i + 1) t * AP hd mj (j + 1) t) + PS hd wt us mj k i j m (t + 1) = w (i * 3 + j) + PS hd wt us mj k i j (m + 1) t := by
      unfold PS
      rw [ts]
      split <;> grind
    have p2 : v i + (if j = 0 then UW wt us t * AP hd mj (i + 1) t * AY hd mj t else 0) + GS hd wt us mj i j m (t + 1) = v i + GS hd wt us mj i j (m + 1) t := by
      unfold GS
      rw [ts]
      split <;> grind
    rw [p1, p2]
