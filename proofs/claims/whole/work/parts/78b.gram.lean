theorem sq0 (x : Int) : 0 ≤ x * x := by
  rcases Int.le_total 0 x with h | h
  · exact Int.mul_nonneg h h
  · have h2 := Int.mul_nonneg (Int.neg_nonneg_of_nonpos h) (Int.neg_nonneg_of_nonpos h)
    have e : -x * -x = x * x := by grind
    rw [← e]; exact h2
def Q1 (a b c d e f x y z : Int) : Int := a * x * x + d * y * y + f * z * z + 2 * b * x * y + 2 * c * x * z + 2 * e * y * z
def Q2 (a b c d e f x y z : Int) : Int := (d * f - e * e) * x * x + (a * f - c * c) * y * y + (a * d - b * b) * z * z + 2 * (c * e - b * f) * x * y + 2 * (b * e - c * d) * x * z + 2 * (b * c - a * e) * y * z
def Qd (a b c d e f : Int) : Int := a * (d * f - e * e) + b * (c * e - b * f) + c * (b * e - c * d)
def PSD (a b c d e f : Int) : Prop := (∀ x y z : Int, 0 ≤ Q1 a b c d e f x y z) ∧ (∀ x y z : Int, 0 ≤ Q2 a b c d e f x y z) ∧ 0 ≤ Qd a b c d e f
theorem PSD_0 : PSD 0 0 0 0 0 0 := by
  refine ⟨fun x y z => ?_, fun x y z => ?_, ?_⟩
  · have e : Q1 0 0 0 0 0 0 x y z = 0 := by unfold Q1; grind
    rw [e]; exact Int.le_refl 0
  · have e : Q2 0 0 0 0 0 0 x y z = 0 := by unfold Q2; grind
    rw [e]; exact Int.le_refl 0
  · decide
theorem PSD_up {a b c d e f u p q r : Int} (h : PSD a b c d e f) (hu : 0 ≤ u) : PSD (a + u * p * p) (b + u * p * q) (c + u * p * r) (d + u * q * q) (e + u * q * r) (f + u * r * r) := by
  obtain ⟨h1, h2, h3⟩ := h
  refine ⟨fun x y z => ?_, fun x y z => ?_, ?_⟩
  · have e1 : Q1 (a + u * p * p) (b + u * p * q) (c + u * p * r) (d + u * q * q) (e + u * q * r) (f + u * r * r) x y z = Q1 a b c d e f x y z + u * ((p * x + q * y + r * z) * (p * x + q * y + r * z)) := by unfold Q1; grind
    rw [e1]
    exact Int.add_nonneg (h1 x y z) (Int.mul_nonneg hu (sq0 _))
  · have e1 : Q2 (a + u * p * p) (b + u * p * q) (c + u * p * r) (d + u * q * q) (e + u * q * r) (f + u * r * r) x y z = Q2 a b c d e f x y z + u * Q1 a b c d e f (y * r - z * q) (z * p - x * r) (x * q - y * p) := by unfold Q2 Q1; grind
    rw [e1]
    exact Int.add_nonneg (h2 x y z) (Int.mul_nonneg hu (h1 _ _ _))
  · have e1 : Qd (a + u * p * p) (b + u * p * q) (c + u * p * r) (d + u * q * q) (e + u * q * r) (f + u * r * r) = Qd a b c d e f + u * Q2 a b c d e f p q r := by unfold Qd Q2; grind
    rw [e1]
    exact Int.add_nonneg h3 (Int.mul_nonneg hu (h2 _ _ _))
/-- the pairs of the vectors w, by the weights u, with l at the corner -/
def WI (u x y : Nat → Int) : Int := u 0 * x 0 * y 0 + u 1 * x 1 * y 1 + u 2 * x 2 * y 2 + u 3 * x 3 * y 3
theorem gram_det {u x y z : Nat → Int} {l m n : Int} (hu : ∀ t : Nat, 0 ≤ u t) (hl : 0 ≤ l) (hm : 0 ≤ m) (hn : 0 ≤ n) : 0 ≤ Qd (WI u x x + l) (WI u x y) (WI u x z) (WI u y y + m) (WI u y z) (WI u z z + n) := by
  have h := PSD_up (p := 0) (q := 0) (r := 1) (PSD_up (p := 0) (q := 1) (r := 0) (PSD_up (p := 1) (q := 0) (r := 0) (PSD_up (p := x 3) (q := y 3) (r := z 3) (PSD_up (p := x 2) (q := y 2) (r := z 2) (PSD_up (p := x 1) (q := y 1) (r := z 1) (PSD_up (p := x 0) (q := y 0) (r := z 0) PSD_0 (hu 0)) (hu 1)) (hu 2)) (hu 3)) hl) hm) hn
  have e := h.2.2
  unfold WI
  have e1 : (0 + u 0 * x 0 * x 0 + u 1 * x 1 * x 1 + u 2 * x 2 * x 2 + u 3 * x 3 * x 3 + l * 1 * 1 + m * 0 * 0 + n * 0 * 0 : Int) = u 0 * x 0 * x 0 + u 1 * x 1 * x 1 + u 2 * x 2 * x 2 + u 3 * x 3 * x 3 + l := by grind
  have e2 : (0 + u 0 * x 0 * y 0 + u 1 * x 1 * y 1 + u 2 * x 2 * y 2 + u 3 * x 3 * y 3 + l * 1 * 0 + m * 0 * 1 + n * 0 * 0 : Int) = u 0 * x 0 * y 0 + u 1 * x 1 * y 1 + u 2 * x 2 * y 2 + u 3 * x 3 * y 3 := by grind
  have e3 : (0 + u 0 * x 0 * z 0 + u 1 * x 1 * z 1 + u 2 * x 2 * z 2 + u 3 * x 3 * z 3 + l * 1 * 0 + m * 0 * 0 + n * 0 * 1 : Int) = u 0 * x 0 * z 0 + u 1 * x 1 * z 1 + u 2 * x 2 * z 2 + u 3 * x 3 * z 3 := by grind
  have e4 : (0 + u 0 * y 0 * y 0 + u 1 * y 1 * y 1 + u 2 * y 2 * y 2 + u 3 * y 3 * y 3 + l * 0 * 0 + m * 1 * 1 + n * 0 * 0 : Int) = u 0 * y 0 * y 0 + u 1 * y 1 * y 1 + u 2 * y 2 * y 2 + u 3 * y 3 * y 3 + m := by grind
  have e5 : (0 + u 0 * y 0 * z 0 + u 1 * y 1 * z 1 + u 2 * y 2 * z 2 + u 3 * y 3 * z 3 + l * 0 * 0 + m * 1 * 0 + n * 0 * 1 : Int) = u 0 * y 0 * z 0 + u 1 * y 1 * z 1 + u 2 * y 2 * z 2 + u 3 * y 3 * z 3 := by grind
  have e6 : (0 + u 0 * z 0 * z 0 + u 1 * z 1 * z 1 + u 2 * z 2 * z 2 + u 3 * z 3 * z 3 + l * 0 * 0 + m * 0 * 0 + n * 1 * 1 : Int) = u 0 * z 0 * z 0 + u 1 * z 1 * z 1 + u 2 * z 2 * z 2 + u 3 * z 3 * z 3 + n := by grind
  rw [e1, e2, e3, e4, e5, e6] at e
  exact e
theorem ls_term {u D y p0 p1 p2 x0 x1 x2 : Int} : u * ((D * y - p0 * x0 - p1 * x1 - p2 * x2) * (D * y - p0 * x0 - p1 * x1 - p2 * x2)) = D * D * (u * y * y) + p0 * p0 * (u * x0 * x0) + p1 * p1 * (u * x1 * x1) + p2 * p2 * (u * x2 * x2) - 2 * D * p0 * (u * x0 * y) - 2 * D * p1 * (u * x1 * y) - 2 * D * p2 * (u * x2 * y) + 2 * p0 * p1 * (u * x0 * x1) + 2 * p0 * p2 * (u * x0 * x2) + 2 * p1 * p2 * (u * x1 * x2) := by grind
theorem ls_sum {u y x0 x1 x2 : Nat → Int} {D p0 p1 p2 : Int} (hu : ∀ t : Nat, 0 ≤ u t) : 0 ≤ D * D * WI u y y + p0 * p0 * WI u x0 x0 + p1 * p1 * WI u x1 x1 + p2 * p2 * WI u x2 x2 - 2 * D * p0 * WI u x0 y - 2 * D * p1 * WI u x1 y - 2 * D * p2 * WI u x2 y + 2 * p0 * p1 * WI u x0 x1 + 2 * p0 * p2 * WI u x0 x2 + 2 * p1 * p2 * WI u x1 x2 := by
  have h : ∀ t : Nat, 0 ≤ u t * ((D * y t - p0 * x0 t - p1 * x1 t - p2 * x2 t) * (D * y t - p0 * x0 t - p1 * x1 t - p2 * x2 t)) := fun t => Int.mul_nonneg (hu t) (sq0 _)
  have h0 := h 0
  have h1 := h 1
  have h2 := h 2
  have h3 := h 3
  rw [ls_term] at h0 h1 h2 h3
  have hs := Int.add_nonneg (Int.add_nonneg h0 h1) (Int.add_nonneg h2 h3)
  refine Int.le_trans hs (Int.le_of_eq ?_)
  unfold WI
  grind
theorem ls_comb {D p0 p1 p2 c0 c1 c2 yy a b c d e f l m n : Int} (h0 : a * p0 + b * p1 + c * p2 = D * c0) (h1 : b * p0 + d * p1 + e * p2 = D * c1) (h2 : c * p0 + e * p1 + f * p2 = D * c2) : D * (yy * D - c0 * p0 - c1 * p1 - c2 * p2) = (D * D * yy + p0 * p0 * (a - l) + p1 * p1 * (d - m) + p2 * p2 * (f - n) - 2 * D * p0 * c0 - 2 * D * p1 * c1 - 2 * D * p2 * c2 + 2 * p0 * p1 * b + 2 * p0 * p2 * c + 2 * p1 * p2 * e) + l * (p0 * p0) + m * (p1 * p1) + n * (p2 * p2) := by
  have g0 := congrArg (fun x => p0 * x) h0
  have g1 := congrArg (fun x => p1 * x) h1
  have g2 := congrArg (fun x => p2 * x) h2
  grind
/-- nothing is nearer than nothing -/
theorem ls_pos {u y x0 x1 x2 : Nat → Int} {D p0 p1 p2 l m n : Int} (hu : ∀ t : Nat, 0 ≤ u t) (hl : 0 ≤ l) (hm : 0 ≤ m) (hn : 0 ≤ n) (h0 : (WI u x0 x0 + l) * p0 + WI u x0 x1 * p1 + WI u x0 x2 * p2 = D * WI u x0 y) (h1 : WI u x0 x1 * p0 + (WI u x1 x1 + m) * p1 + WI u x1 x2 * p2 = D * WI u x1 y) (h2 : WI u x0 x2 * p0 + WI u x1 x2 * p1 + (WI u x2 x2 + n) * p2 = D * WI u x2 y) : 0 ≤ D * (WI u y y * D - WI u x0 y * p0 - WI u x1 y * p1 - WI u x2 y * p2) := by
  rw [ls_comb (l := l) (m := m) (n := n) h0 h1 h2]
  have hs := ls_sum (u := u) (y := y) (x0 := x0) (x1 := x1) (x2 := x2) (D := D) (p0 := p0) (p1 := p1) (p2 := p2) hu
  rw [show WI u x0 x0 + l - l = WI u x0 x0 by omega, show WI u x1 x1 + m - m = WI u x1 x1 by omega, show WI u x2 x2 + n - n = WI u x2 x2 by omega]
  exact Int.add_nonneg (Int.add_nonneg (Int.add_nonneg hs (Int.mul_nonneg hl (sq0 _))) (Int.mul_nonneg hm (sq0 _))) (Int.mul_nonneg hn (sq0 _))
def D3I (m : Nat → Int) : Int := m 0 * (m 4 * m 8 - m 5 * m 7) + m 1 * (m 5 * m 6 - m 3 * m 8) + m 2 * (m 3 * m 7 - m 4 * m 6)
