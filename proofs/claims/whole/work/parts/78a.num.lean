theorem l0 : (0 : Int64) = lN 0 := rfl
theorem lle0 {b : Nat} (h0 : 0 < b) (hb : b < 2 ^ 63) : ¬ lN b ≤ 0 := by
  rw [l0, pk_lLE hb (by decide)]
  omega
theorem lne0 {b : Nat} (h0 : 0 < b) (hb : b < 2 ^ 63) : ¬ lN b = 0 := by
  rw [l0, pk_lEQ hb (by decide)]
  omega
theorem mod2 {a b : Nat} (h : b ≤ a) (h0 : 0 < b) : 2 * (a % b) ≤ a := by
  have h1 : a % b < b := Nat.mod_lt _ h0
  have h2 : 1 ≤ a / b := (Nat.one_le_div_iff h0).mpr h
  have h3 := Nat.div_add_mod a b
  have h4 : b * 1 ≤ b * (a / b) := Nat.mul_le_mul_left _ h2
  omega
theorem half {a b m : Nat} (h : b ≤ a) (h0 : 0 < b) (hm : a * b < 2 ^ (m + 1)) : b * (a % b) < 2 ^ m := by
  have h1 : b * (2 * (a % b)) ≤ b * a := Nat.mul_le_mul_left _ (mod2 h h0)
  rw [Nat.mul_comm b a] at h1
  have h2 : b * (2 * (a % b)) = 2 * (b * (a % b)) := by rw [← Nat.mul_assoc, Nat.mul_comm b 2, Nat.mul_assoc]
  rw [Nat.pow_succ] at hm
  omega
theorem nle200 {i : Nat} (h : i < 200) : ¬ (200 : Int32) ≤ nI i := nI_ge (b := 200) h (by decide)
theorem gx0 {n a : Nat} {i : Int32} : (L_X1_commonDivisor_9 (n + 1) (lN a) (lN 0) i).1 = lN a := by
  rw [L_X1_commonDivisor_9]
  split
  · rfl
  · rw [if_pos (by decide)]
theorem gxS {n a b i : Nat} (ha : a < 2 ^ 63) (h0 : 0 < b) (hb : b < 2 ^ 63) (hi : i < 200) : L_X1_commonDivisor_9 (n + 1) (lN a) (lN b) (nI i) = L_X1_commonDivisor_9 n (lN b) (lN (a % b)) (nI (i + 1)) := by
  rw [L_X1_commonDivisor_9, if_neg (nle200 hi), if_neg (lle0 h0 hb), pk_lRem ha h0 hb, nI_1]
theorem gcdX : ∀ (m n i a b : Nat), b ≤ a → a < 2 ^ 63 → a * b < 2 ^ m → i + m ≤ 199 → 200 < i + n → (L_X1_commonDivisor_9 n (lN a) (lN b) (nI i)).1 = lN (Nat.gcd b a) := by
  intro m
  induction m with
  | zero =>
    intro n i a b h1 h2 h3 h4 h5
    obtain ⟨n, rfl⟩ : ∃ k, n = k + 1 := ⟨n - 1, by omega⟩
    have hb : b = 0 := by
      rcases Nat.eq_zero_or_pos b with q | q
      · exact q
      · have : 1 * 1 ≤ a * b := Nat.mul_le_mul (by omega) q
        omega
    rw [hb, gx0, Nat.gcd_zero_left]
  | succ m ih =>
    intro n i a b h1 h2 h3 h4 h5
    obtain ⟨n, rfl⟩ : ∃ k, n = k + 1 := ⟨n - 1, by omega⟩
    rcases Nat.eq_zero_or_pos b with q | q
    · rw [q, gx0, Nat.gcd_zero_left]
    · rw [gxS h2 q (by omega) (by omega), ih n (i + 1) b (a % b) (Nat.le_of_lt (Nat.mod_lt _ q)) (by omega) (half h1 q h3) (by omega) (by omega), ← Nat.gcd_rec]
theorem sq126 {a b : Nat} (ha : a < 2 ^ 63) (hb : b < 2 ^ 63) : a * b < 2 ^ 126 := by
  have h1 : a * b ≤ 2 ^ 63 * b := Nat.mul_le_mul_right _ (Nat.le_of_lt ha)
  have h2 : 2 ^ 63 * b < 2 ^ 63 * 2 ^ 63 := Nat.mul_lt_mul_of_pos_left hb (by decide)
  have h3 : (2 : Nat) ^ 63 * 2 ^ 63 = 2 ^ 126 := by decide
  omega
theorem gcdX_at {a b : Nat} (ha : a < 2 ^ 63) (hb : b < 2 ^ 63) : f_X1_commonDivisor (lN a) (lN b) = lN (Nat.gcd b a) := by
  unfold f_X1_commonDivisor
  dsimp only
  rcases Nat.eq_zero_or_pos b with q | q
  · rw [q, gx0, Nat.gcd_zero_left]
  · rw [show (0 : Int32) = nI 0 by decide, gxS ha q hb (by decide), gcdX 126 200 1 b (a % b) (Nat.le_of_lt (Nat.mod_lt _ q)) hb (sq126 hb (Nat.lt_trans (Nat.mod_lt _ q) hb)) (by decide) (by decide), ← Nat.gcd_rec]
theorem gcdM : ∀ (n a b : Nat), b < n → a < 2 ^ 63 → b < 2 ^ 63 → (L_X7_divisor_17 n (lN a) (lN b)).1 = lN (Nat.gcd b a) := by
  intro n
  induction n with
  | zero => intro a b h; omega
  | succ n ih =>
    intro a b h1 h2 h3
    rw [L_X7_divisor_17]
    rcases Nat.eq_zero_or_pos b with q | q
    · rw [q, if_pos (by decide), Nat.gcd_zero_left]
    · have hr := Nat.mod_lt a q
      rw [if_neg (lne0 q h3), pk_lRem h2 q h3, ih b (a % b) (by omega) h3 (by omega), ← Nat.gcd_rec]
/-- how far from nothing -/
def AB (x : Int64) (c : Nat) : Prop := c < 2 ^ 63 ∧ ((0 ≤ x ∧ x = lN c) ∨ (¬ 0 ≤ x ∧ -x = lN c))
theorem AB_x {x : Int64} {c : Nat} (h : AB x c) : (if 0 < x then x else -x) = lN c := by
  obtain ⟨h1, h2 | h2⟩ := h
  · rcases Nat.eq_zero_or_pos c with q | q
    · rw [h2.2, q, if_neg (by decide)]
      decide
    · rw [if_pos (by rw [h2.2, l0, pk_lLT (by decide) h1]; exact q), h2.2]
  · rw [if_neg (fun q => h2.1 (by rw [Int64.le_iff_toInt_le]; rw [Int64.lt_iff_toInt_lt] at q; omega)), h2.2]
theorem AB_m {x : Int64} {c : Nat} (h : AB x c) : (if 0 ≤ x then x else -x) = lN c := by
  obtain ⟨h1, h2 | h2⟩ := h
  · rw [if_pos h2.1, h2.2]
  · rw [if_neg h2.1, h2.2]
theorem AB_of {z : Int} (h1 : - 2 ^ 63 < z) (h2 : z < 2 ^ 63) : AB (Int64.ofInt z) z.natAbs := by
  refine ⟨by omega, ?_⟩
  have ht : (Int64.ofInt z).toInt = z := Int64.toInt_ofInt_of_le (by omega) h2
  by_cases c : 0 ≤ z
  · refine Or.inl ⟨?_, ?_⟩
    · rw [Int64.le_iff_toInt_le, ht]; exact c
    · conv => lhs; rw [show z = (z.natAbs : Int) by omega]
      exact Int64.ofInt_eq_ofNat
  · refine Or.inr ⟨?_, ?_⟩
    · rw [Int64.le_iff_toInt_le, ht]; exact c
    · rw [Int64.neg_ofInt]
      conv => lhs; rw [show -z = (z.natAbs : Int) by omega]
      exact Int64.ofInt_eq_ofNat
theorem divisorM_at {x : Int64} {c d : Nat} (h : AB x c) (hd : d < 2 ^ 63) : f_X7_divisor x (lN d) = lN (Nat.gcd d c) := by
  unfold f_X7_divisor
  dsimp only
  rw [AB_m h, pk_lT hd, gcdM _ _ _ (by omega) h.1 hd]
theorem put_low {x : Int64} {c d : Nat} (h : AB x c) (h0 : 0 < d) (hd : d < 2 ^ 63) : f_X1_put x (lN d) = (f_X7_lowest x (lN d) 0, f_X7_lowest x (lN d) 1) := by
  have hg : 0 < Nat.gcd d c := Nat.gcd_pos_of_pos_left _ h0
  have hg2 : Nat.gcd d c < 2 ^ 63 := Nat.lt_of_le_of_lt (Nat.gcd_le_left _ h0) hd
  unfold f_X1_put f_X7_lowest
  dsimp only
  rw [if_neg (lle0 h0 hd), AB_x h, gcdX_at h.1 hd, divisorM_at h hd, if_pos (by rw [l0, pk_lLT (by decide) hg2]; exact hg), if_pos rfl, if_neg (by decide)]
theorem part_low {x : Int64} {c d : Nat} {q : Int32} (h : AB x c) (h0 : 0 < d) (hd : d < 2 ^ 63) : f_X1_part (f_X1_put x (lN d)).1 (f_X1_put x (lN d)).2 q = f_X7_lowest x (lN d) q := by
  rw [put_low h h0 hd]
  unfold f_X1_part f_X7_lowest
  dsimp only
  split
  · rfl
  · rfl
theorem lowN {c d : Nat} (hc : c < 2 ^ 63) (h0 : 0 < d) (hd : d < 2 ^ 63) : f_X7_lowest (lN c) (lN d) 0 = lN (c / Nat.gcd d c) ∧ f_X7_lowest (lN c) (lN d) 1 = lN (d / Nat.gcd d c) := by
  have hg : 0 < Nat.gcd d c := Nat.gcd_pos_of_pos_left _ h0
  have hg2 : Nat.gcd d c < 2 ^ 63 := Nat.lt_of_le_of_lt (Nat.gcd_le_left _ h0) hd
  have ha : AB (lN c) c := ⟨hc, Or.inl ⟨by rw [l0, pk_lLE (by decide) hc]; exact Nat.zero_le _, rfl⟩⟩
  unfold f_X7_lowest
  dsimp only
  rw [divisorM_at ha hd, if_pos rfl, if_neg (by decide), pk_lDiv hc hg hg2, pk_lDiv hd hg hg2]
  exact ⟨rfl, rfl⟩
/-- comparing -/
def cm (x y : Nat) : Int32 := if x < y then -1 else if x = y then 0 else 1
theorem cm_mul {k x y : Nat} (hk : 0 < k) : cm (k * x) (k * y) = cm x y := by
  unfold cm
  by_cases h : x < y
  · rw [if_pos h, if_pos (Nat.mul_lt_mul_of_pos_left h hk)]
  · rw [if_neg h, if_neg (fun q => h (Nat.lt_of_mul_lt_mul_left q))]
    by_cases e : x = y
    · rw [if_pos e, if_pos (by rw [e])]
    · rw [if_neg e, if_neg (fun q => e (Nat.eq_of_mul_eq_mul_left hk q))]
theorem cm_swap {x y : Nat} : cm x y = - cm y x := by
  unfold cm
  rcases Nat.lt_trichotomy x y with h | h | h
  · rw [if_pos h, if_neg (by omega), if_neg (by omega)]
  · rw [if_neg (by omega), if_pos h, if_neg (by omega), if_pos h.symm]
    decide
  · rw [if_neg (by omega), if_neg (by omega), if_pos h]
    decide
theorem cm_div {a b c d : Nat} (hb : 0 < b) (hd : 0 < d) (h : a / b < c / d) : a * d < c * b := by
  have h1 : a < (a / b + 1) * b := by
    have := Nat.div_add_mod a b
    have h3 := Nat.mod_lt a hb
    rw [Nat.add_mul, Nat.one_mul, Nat.mul_comm (a / b) b]
    omega
  have h2 : (a / b + 1) * b ≤ c / d * b := Nat.mul_le_mul_right _ h
  have h3 : a < c / d * b := Nat.lt_of_lt_of_le h1 h2
  have h4 : a * d < c / d * b * d := Nat.mul_lt_mul_of_pos_right h3 hd
  have h5 : c / d * d ≤ c := Nat.div_mul_le_self c d
  have h6 : c / d * d * b ≤ c * b := Nat.mul_le_mul_right _ h5
  have h7 : c / d * b * d = c / d * d * b := by rw [Nat.mul_assoc, Nat.mul_comm b d, Nat.mul_assoc]
  omega
theorem cm_add {x y k : Nat} : cm (k + x) (k + y) = cm x y := by
  unfold cm
  by_cases h : x < y
  · rw [if_pos h, if_pos (by omega)]
  · rw [if_neg h, if_neg (by omega)]
    by_cases e : x = y
    · rw [if_pos e, if_pos (by omega)]
    · rw [if_neg e, if_neg (by omega)]
theorem cm_rem {a b c d : Nat} (h : a / b = c / d) : cm (a * d) (c * b) = cm (a % b * d) (c % d * b) := by
  have h1 : a * d = a / b * b * d + a % b * d := by
    rw [← Nat.add_mul]
    congr 1
    have := Nat.div_add_mod a b
    rw [Nat.mul_comm b] at this
    exact this.symm
  have h2 : c * b = a / b * b * d + c % d * b := by
    rw [h]
    have := Nat.div_add_mod c d
    rw [Nat.mul_comm d] at this
    rw [Nat.mul_assoc, Nat.mul_comm b d, ← Nat.mul_assoc, ← Nat.add_mul]
    congr 1
    exact this.symm
  rw [h1, h2, cm_add]
theorem jcmp {a b : Nat} (ha : a < 2 ^ 63) (hb : b < 2 ^ 63) : f_J13_compare_74951 (lN a) (lN b) = cm a b := by
  unfold f_J13_compare_74951 cm
  by_cases h : a < b
  · rw [if_neg (by rw [pk_lLE hb ha]; omega), if_pos h]
  · rw [if_pos (by rw [pk_lLE hb ha]; omega), if_neg h]
    by_cases e : a = b
    · rw [if_pos (by rw [e]), if_pos e]
    · rw [if_neg (by rw [pk_lEQ ha hb]; exact e), if_neg e]
theorem cm_0 {x y : Nat} : cm x y = 0 ↔ x = y := by
  unfold cm
  by_cases h : x < y
  · rw [if_pos h]
    exact ⟨fun q => absurd q (by decide), fun q => by omega⟩
  · rw [if_neg h]
    by_cases e : x = y
    · rw [if_pos e]; exact ⟨fun _ => e, fun _ => rfl⟩
    · rw [if_neg e]; exact ⟨fun q => absurd q (by decide), fun q => absurd q e⟩
theorem cm_lt {x y : Nat} (h : x < y) : cm x y = -1 := by unfold cm; rw [if_pos h]
theorem cm_gt {x y : Nat} (h : y < x) : cm x y = 1 := by unfold cm; rw [if_neg (by omega), if_neg (by omega)]
theorem cm_quo {a b c d : Nat} (hb : 0 < b) (hd : 0 < d) (h : ¬ a / b = c / d) : cm (a / b) (c / d) = cm (a * d) (c * b) := by
  rcases Nat.lt_or_ge (a / b) (c / d) with q | q
  · rw [cm_lt q, cm_lt (cm_div hb hd q)]
  · have q2 : c / d < a / b := by omega
    have q3 := cm_div hd hb q2
    rw [cm_gt q2, cm_gt q3]
theorem cm_r0 {b d x y : Nat} (hb : 0 < b) (hd : 0 < d) (h : x = 0 ∨ y = 0) : cm x y = cm (x * d) (y * b) := by
  rcases h with rfl | rfl
  · rw [Nat.zero_mul]
    rcases Nat.eq_zero_or_pos y with rfl | q
    · rw [Nat.zero_mul]
    · rw [cm_lt q, cm_lt (Nat.mul_pos q hb)]
  · rw [Nat.zero_mul]
    rcases Nat.eq_zero_or_pos x with rfl | q
    · rw [Nat.zero_mul]
    · rw [cm_gt q, cm_gt (Nat.mul_pos q hd)]
theorem agS {n a b c d i : Nat} {s : Int32} (ha : a < 2 ^ 63) (hb0 : 0 < b) (hb : b < 2 ^ 63) (hc : c < 2 ^ 63) (hd0 : 0 < d) (hd : d < 2 ^ 63) (hi : i < 200) (hrec : 0 < a % b → 0 < c % d → L_X1_against_29 n (lN b) (lN (a % b)) (lN d) (lN (c % d)) (-s) (nI (i + 1)) = -s * cm (b * (c % d)) (d * (a % b))) : L_X1_against_29 (n + 1) (lN a) (lN b) (lN c) (lN d) s (nI i) = s * cm (a * d) (c * b) := by
  have hr1 := Nat.mod_lt a hb0
  have hr2 := Nat.mod_lt c hd0
  have hq1 : a / b < 2 ^ 63 := Nat.lt_of_le_of_lt (Nat.div_le_self _ _) ha
  have hq2 : c / d < 2 ^ 63 := Nat.lt_of_le_of_lt (Nat.div_le_self _ _) hc
  rw [L_X1_against_29, if_neg (nle200 hi), if_neg (lle0 hb0 hb), if_neg (lle0 hd0 hd), pk_lRem ha hb0 hb, pk_lRem hc hd0 hd, pk_lDiv ha hb0 hb, pk_lDiv hc hd0 hd, jcmp hq1 hq2, jcmp (by omega) (by omega), nI_1]
  by_cases e : a / b = c / d
  · rw [if_pos (cm_0.mpr e), cm_rem e]
    rcases Nat.eq_zero_or_pos (a % b) with q | q
    · rw [if_pos (by rw [q]; rfl), cm_r0 hb0 hd0 (Or.inl q)]
    · rw [if_neg (lne0 q (by omega))]
      rcases Nat.eq_zero_or_pos (c % d) with q2 | q2
      · rw [if_pos (by rw [q2]; rfl), cm_r0 hb0 hd0 (Or.inr q2)]
      · rw [if_neg (lne0 q2 (by omega)), hrec q q2, cm_swap (x := a % b * d), Nat.mul_comm (c % d) b, Nat.mul_comm (a % b) d]
        grind
  · rw [if_neg (fun q => e (cm_0.mp q)), cm_quo hb0 hd0 e]
theorem agL : ∀ (m n i a b c d : Nat) (s : Int32), b ≤ a → a < 2 ^ 63 → 0 < b → c < 2 ^ 63 → 0 < d → d < 2 ^ 63 → a * b < 2 ^ m → i + m ≤ 199 → 200 < i + n → L_X1_against_29 n (lN a) (lN b) (lN c) (lN d) s (nI i) = s * cm (a * d) (c * b) := by
  intro m
  induction m with
  | zero =>
    intro n i a b c d s h1 h2 h3 h4 h5 h6 h7
    have : 1 * 1 ≤ a * b := Nat.mul_le_mul (by omega) h3
    omega
  | succ m ih =>
    intro n i a b c d s h1 h2 h3 h4 h5 h6 h7 h8 h9
    obtain ⟨n, rfl⟩ : ∃ k, n = k + 1 := ⟨n - 1, by omega⟩
    have hr2 := Nat.mod_lt c h5
    refine agS h2 h3 (by omega) h4 h5 h6 (by omega) (fun q1 q2 => ?_)
    exact ih n (i + 1) b (a % b) d (c % d) (-s) (Nat.le_of_lt (Nat.mod_lt _ h3)) (by omega) q1 h6 q2 (by omega) (half h1 h3 h7) (by omega) (by omega)
theorem against_at {a b c d : Nat} (ha : a < 2 ^ 63) (hb0 : 0 < b) (hb : b < 2 ^ 63) (hc : c < 2 ^ 63) (hd0 : 0 < d) (hd : d < 2 ^ 63) : f_X1_against (lN a) (lN b) (lN c) (lN d) = cm (a * d) (c * b) := by
  unfold f_X1_against
  have hr1 := Nat.mod_lt a hb0
  have hr2 := Nat.mod_lt c hd0
  have h := agS (n := 200) (i := 0) (s := 1) ha hb0 hb hc hd0 hd (by decide) (fun q1 q2 => agL 126 200 1 b (a % b) d (c % d) (-1) (Nat.le_of_lt hr1) hb q1 hd q2 (by omega) (sq126 hb (by omega)) (by decide) (by decide))
  refine h.trans ?_
  grind
theorem cpL : ∀ (n a b c d : Nat) (s : Int32), b < n → a < 2 ^ 63 → 0 < b → b < 2 ^ 63 → c < 2 ^ 63 → 0 < d → d < 2 ^ 63 → L_X7_compare_17 n (lN a) (lN b) (lN c) (lN d) s = s * cm (a * d) (c * b) := by
  intro n
  induction n with
  | zero => intro a b c d s h; omega
  | succ n ih =>
    intro a b c d s h1 ha hb0 hb hc hd0 hd
    have hr1 := Nat.mod_lt a hb0
    have hr2 := Nat.mod_lt c hd0
    have hq1 : a / b < 2 ^ 63 := Nat.lt_of_le_of_lt (Nat.div_le_self _ _) ha
    have hq2 : c / d < 2 ^ 63 := Nat.lt_of_le_of_lt (Nat.div_le_self _ _) hc
    rw [L_X7_compare_17, pk_lRem ha hb0 hb, pk_lRem hc hd0 hd, pk_lDiv ha hb0 hb, pk_lDiv hc hd0 hd]
    by_cases e : a / b = c / d
    · rw [if_pos (by rw [e]), cm_rem e]
      rcases Nat.eq_zero_or_pos (a % b) with q | q
      · rw [← cm_r0 hb0 hd0 (Or.inl q), if_pos (by rw [q]; rfl)]
        rcases Nat.eq_zero_or_pos (c % d) with q2 | q2
        · rw [if_pos (by rw [q, q2]), q, q2]
          show 0 = s * 0
          grind
        · rw [if_neg (by rw [pk_lEQ (by omega) (by omega)]; omega), if_pos (by rw [q]; rfl), cm_lt (by omega)]
          grind
      · rw [if_neg (lne0 q (by omega))]
        rcases Nat.eq_zero_or_pos (c % d) with q2 | q2
        · rw [← cm_r0 hb0 hd0 (Or.inr q2), if_pos (by rw [q2]; rfl), if_neg (by rw [pk_lEQ (by omega) (by omega)]; omega), if_neg (lne0 q (by omega)), cm_gt (by omega)]
          grind
        · rw [if_neg (lne0 q2 (by omega)), ih b (a % b) d (c % d) (-s) (by omega) hb q (by omega) hd q2 (by omega), cm_swap (x := a % b * d), Nat.mul_comm (c % d) b, Nat.mul_comm (a % b) d]
          grind
    · rw [if_neg (by rw [pk_lEQ hq1 hq2]; exact e), ← cm_quo hb0 hd0 e]
      rcases Nat.lt_or_ge (a / b) (c / d) with q | q
      · rw [if_neg (by rw [pk_lLE hq2 hq1]; omega), cm_lt q]
        grind
      · rw [if_pos (by rw [pk_lLE hq2 hq1]; omega), cm_gt (by omega)]
        grind
theorem compare_at {a b c d : Nat} (ha : a < 2 ^ 63) (hb0 : 0 < b) (hb : b < 2 ^ 63) (hc : c < 2 ^ 63) (hd0 : 0 < d) (hd : d < 2 ^ 63) : f_X7_compare (lN a) (lN b) (lN c) (lN d) = cm (a * d) (c * b) := by
  unfold f_X7_compare
  rw [cpL _ a b c d 1 (by rw [pk_lT hb]; omega) ha hb0 hb hc hd0 hd]
  grind
theorem against_low {a b c d : Nat} (ha : a < 2 ^ 63) (hb0 : 0 < b) (hb : b < 2 ^ 63) (hc : c < 2 ^ 63) (hd0 : 0 < d) (hd : d < 2 ^ 63) : f_X1_against (f_X7_lowest (lN a) (lN b) 0) (f_X7_lowest (lN a) (lN b) 1) (f_X7_lowest (lN c) (lN d) 0) (f_X7_lowest (lN c) (lN d) 1) = f_X7_compare (lN a) (lN b) (lN c) (lN d) := by
  rw [(lowN ha hb0 hb).1, (lowN ha hb0 hb).2, (lowN hc hd0 hd).1, (lowN hc hd0 hd).2]
  have hg : 0 < Nat.gcd b a := Nat.gcd_pos_of_pos_left _ hb0
  have hh : 0 < Nat.gcd d c := Nat.gcd_pos_of_pos_left _ hd0
  have e1 : Nat.gcd b a * (a / Nat.gcd b a) = a := Nat.mul_div_cancel' (Nat.gcd_dvd_right b a)
  have e2 : Nat.gcd b a * (b / Nat.gcd b a) = b := Nat.mul_div_cancel' (Nat.gcd_dvd_left b a)
  have e3 : Nat.gcd d c * (c / Nat.gcd d c) = c := Nat.mul_div_cancel' (Nat.gcd_dvd_right d c)
  have e4 : Nat.gcd d c * (d / Nat.gcd d c) = d := Nat.mul_div_cancel' (Nat.gcd_dvd_left d c)
  have l1 : a / Nat.gcd b a < 2 ^ 63 := Nat.lt_of_le_of_lt (Nat.div_le_self _ _) ha
  have l2 : b / Nat.gcd b a < 2 ^ 63 := Nat.lt_of_le_of_lt (Nat.div_le_self _ _) hb
  have l3 : c / Nat.gcd d c < 2 ^ 63 := Nat.lt_of_le_of_lt (Nat.div_le_self _ _) hc
  have l4 : d / Nat.gcd d c < 2 ^ 63 := Nat.lt_of_le_of_lt (Nat.div_le_self _ _) hd
  have p2 : 0 < b / Nat.gcd b a := Nat.pos_of_ne_zero (fun q => by rw [q] at e2; omega)
  have p4 : 0 < d / Nat.gcd d c := Nat.pos_of_ne_zero (fun q => by rw [q] at e4; omega)
  rw [against_at l1 p2 l2 l3 p4 l4, compare_at ha hb0 hb hc hd0 hd]
  rw [← cm_mul (k := Nat.gcd b a * Nat.gcd d c) (Nat.mul_pos hg hh)]
  generalize Nat.gcd b a = g at e1 e2
  generalize Nat.gcd d c = h at e3 e4
  have f1 : g * h * (a / g * (d / h)) = a * d := by rw [Nat.mul_mul_mul_comm, e1, e4]
  have f2 : g * h * (c / h * (b / g)) = c * b := by rw [Nat.mul_comm (c / h), Nat.mul_mul_mul_comm, e2, e3, Nat.mul_comm]
  rw [f1, f2]
theorem ones_f : ∀ s : Fin 16, f_J6_bitCount_0f7a4 (nI s.val) = f_X7_ones (nI s.val) := by decide +kernel
theorem ones_at {s : Nat} (h : s < 16) : f_J6_bitCount_0f7a4 (nI s) = f_X7_ones (nI s) := ones_f ⟨s, h⟩
