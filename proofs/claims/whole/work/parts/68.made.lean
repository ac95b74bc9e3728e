def dsum (h : Nat → Nat) : Nat → Nat → Nat → Nat
  | 0, _, _ => 0
  | m + 1, s, r => r % 10 * h s + dsum h m (s + 1) (r / 10)
theorem dsum_0 {h : Nat → Nat} : ∀ (m s : Nat), dsum h m s 0 = 0 := by
  intro m
  induction m with
  | zero => intro s; rfl
  | succ m ih => intro s; rw [dsum, ih]; simp
theorem dsum_more {h : Nat → Nat} : ∀ (m e s r : Nat), r < 10 ^ m → dsum h (m + e) s r = dsum h m s r := by
  intro m
  induction m with
  | zero => intro e s r hr; rw [show r = 0 by omega]; rw [dsum_0, dsum_0]
  | succ m ih =>
    intro e s r hr
    rw [show m + 1 + e = (m + e) + 1 by omega, dsum, dsum, ih e (s + 1) (r / 10) (by rw [Nat.pow_succ] at hr; omega)]
theorem dsum_le {h : Nat → Nat} {c : Nat} (hc : ∀ s, h s ≤ c) : ∀ (m s r : Nat), dsum h m s r ≤ c * dsum (fun _ => 1) m s r := by
  intro m
  induction m with
  | zero => intro s r; exact Nat.zero_le _
  | succ m ih =>
    intro s r
    rw [dsum, dsum, Nat.mul_add, Nat.mul_one]
    have h1 : r % 10 * h s ≤ c * (r % 10) := by rw [Nat.mul_comm c]; exact Nat.mul_le_mul_left _ (hc s)
    exact Nat.add_le_add h1 (ih (s + 1) (r / 10))
theorem dsum_1le : ∀ (m s r : Nat), dsum (fun _ => 1) m s r ≤ 9 * m := by
  intro m
  induction m with
  | zero => intro s r; exact Nat.zero_le _
  | succ m ih => intro s r; rw [dsum]; have := ih (s + 1) (r / 10); omega
theorem dsum_pos : ∀ (m s r : Nat), r < 10 ^ m → 0 < r → 0 < dsum (fun _ => 1) m s r := by
  intro m
  induction m with
  | zero => intro s r h1 h2; omega
  | succ m ih =>
    intro s r h1 h2
    rw [dsum]
    by_cases q : r % 10 = 0
    · have := ih (s + 1) (r / 10) (by rw [Nat.pow_succ] at h1; omega) (by omega)
      omega
    · omega
theorem dg {r : Nat} (h : r < 2 ^ 31) : nI r - nI r / 10 * 10 = nI (r % 10) ∧ nI r / 10 = nI (r / 10) := ⟨pk_rem (d := 10) h (by decide) (by decide), pk_div (d := 10) h (by decide) (by decide)⟩
theorem hbpL {hd : Nat → Int32} {t : Nat} {h : Nat → Nat} (hh : ∀ s : Nat, s < 4 → hd (s * 4 + t) = nI (h s)) (ht : t < 4) : ∀ (m n s acc r : Nat), s + m = 4 → m < n → r < 2 ^ 31 → (L_X2_heldByParts_8 hd (nI t) n (nI acc) (nI r) (nI s)).1 = nI (acc + dsum h m s r) := by
  intro m
  induction m with
  | zero =>
    intro n s acc r h1 h2 h3
    obtain ⟨n, rfl⟩ : ∃ k, n = k + 1 := ⟨n - 1, by omega⟩
    rw [show s = 4 by omega, L_X2_heldByParts_8, if_pos (by decide)]
    rfl
  | succ m ih =>
    intro n s acc r h1 h2 h3
    obtain ⟨n, rfl⟩ : ∃ k, n = k + 1 := ⟨n - 1, by omega⟩
    rw [L_X2_heldByParts_8, if_neg (nle4 (by omega)), (dg h3).1, (dg h3).2, nI_1, heldOf_at (by omega) ht, hh s (by omega), pk_mul, nI_add, ih n (s + 1) _ (r / 10) (by omega) (by omega) (by omega), dsum, Nat.add_assoc]
theorem figL : ∀ (m n s acc r : Nat), s + m = 4 → m < n → r < 2 ^ 31 → (L_X6_figureSum_6 n (nI acc) (nI r) (nI s)).1 = nI (acc + dsum (fun _ => 1) m s r) := by
  intro m
  induction m with
  | zero =>
    intro n s acc r h1 h2 h3
    obtain ⟨n, rfl⟩ : ∃ k, n = k + 1 := ⟨n - 1, by omega⟩
    rw [show s = 4 by omega, L_X6_figureSum_6, if_pos (by decide)]
    rfl
  | succ m ih =>
    intro n s acc r h1 h2 h3
    obtain ⟨n, rfl⟩ : ∃ k, n = k + 1 := ⟨n - 1, by omega⟩
    rw [L_X6_figureSum_6, if_neg (nle4 (by omega)), (dg h3).1, (dg h3).2, nI_1, nI_add, ih n (s + 1) _ (r / 10) (by omega) (by omega) (by omega), dsum, Nat.add_assoc, Nat.mul_one]
theorem sumL {am : Nat → Int32} {t a : Nat} {h : Nat → Nat} (hh : ∀ s : Nat, s < 4 → am (s * 4 + t) = nI (h s)) (ht : t < 4) (ha : a ≤ 4) : ∀ (m n s acc r : Nat), s + m = a → m < n → r < 2 ^ 31 → (L_X7_sumBy_8 (nI a) am (nI t) n (nI acc) (nI r) (nI s)).1 = nI (acc + dsum h m s r) := by
  intro m
  induction m with
  | zero =>
    intro n s acc r h1 h2 h3
    obtain ⟨n, rfl⟩ : ∃ k, n = k + 1 := ⟨n - 1, by omega⟩
    rw [show s = a by omega, L_X7_sumBy_8, if_pos (nI_le (Nat.le_refl a) (by omega))]
    rfl
  | succ m ih =>
    intro n s acc r h1 h2 h3
    obtain ⟨n, rfl⟩ : ∃ k, n = k + 1 := ⟨n - 1, by omega⟩
    rw [L_X7_sumBy_8, if_neg (nI_ge (by omega) (by omega)), (dg h3).1, (dg h3).2, nI_1, ix4 (by omega) ht, hh s (by omega), pk_mul, nI_add, ih n (s + 1) _ (r / 10) (by omega) (by omega) (by omega), dsum, Nat.add_assoc]
theorem ten_lt {s : Nat} (h : s ≤ 4) : 10 ^ s ≤ 10000 := by
  have : 10 ^ s ≤ 10 ^ 4 := Nat.pow_le_pow_right (by decide) h
  omega
theorem m18L {a P : Nat} (ha : a ≤ 4) (hP : P < 2 ^ 31) : ∀ (m n s acc : Nat), s + m = a → m < n → L_X7_made_18 (nI a) (nI P) n (nI acc) (nI (10 ^ s)) (nI s) = (nI (acc + dsum (fun _ => 1) m s (P / 10 ^ s)), nI (10 ^ a), nI a) := by
  intro m
  induction m with
  | zero =>
    intro n s acc h1 h2
    obtain ⟨n, rfl⟩ : ∃ k, n = k + 1 := ⟨n - 1, by omega⟩
    rw [show s = a by omega, L_X7_made_18, if_pos (nI_le (Nat.le_refl a) (by omega))]
    rfl
  | succ m ih =>
    intro n s acc h1 h2
    obtain ⟨n, rfl⟩ : ∃ k, n = k + 1 := ⟨n - 1, by omega⟩
    have ht := ten_lt (s := s) (by omega)
    have hp : 0 < 10 ^ s := Nat.pow_pos (by decide)
    have e1 : nI P / nI (10 ^ s) = nI (P / 10 ^ s) := pk_div hP hp (by omega)
    have hd : P / 10 ^ s < 2 ^ 31 := Nat.lt_of_le_of_lt (Nat.div_le_self _ _) hP
    have e2 : nI (10 ^ s) * 10 = nI (10 ^ (s + 1)) := by rw [Nat.pow_succ]; exact pk_mul (10 ^ s) 10
    have e3 : P / 10 ^ s / 10 = P / 10 ^ (s + 1) := by rw [Nat.div_div_eq_div_mul, ← Nat.pow_succ]
    rw [L_X7_made_18, if_neg (nI_ge (by omega) (by omega)), e1, (dg hd).1, nI_1, nI_add, e2, ih n (s + 1) _ (by omega) (by omega), dsum, e3, Nat.add_assoc, Nat.mul_one]
theorem p10L {a : Nat} (ha : a ≤ 4) : ∀ (m n s : Nat), s + m = a → m < n → (L_X6_powerOfTen_4 (nI a) n (nI (10 ^ s)) (nI s)).1 = nI (10 ^ a) := by
  intro m
  induction m with
  | zero =>
    intro n s h1 h2
    obtain ⟨n, rfl⟩ : ∃ k, n = k + 1 := ⟨n - 1, by omega⟩
    rw [show s = a by omega, L_X6_powerOfTen_4]
    split
    · rfl
    · rw [if_pos (nI_le (Nat.le_refl a) (by omega))]
  | succ m ih =>
    intro n s h1 h2
    obtain ⟨n, rfl⟩ : ∃ k, n = k + 1 := ⟨n - 1, by omega⟩
    have e2 : nI (10 ^ s) * 10 = nI (10 ^ (s + 1)) := by rw [Nat.pow_succ]; exact pk_mul (10 ^ s) 10
    rw [L_X6_powerOfTen_4, if_neg (nle4 (by omega)), if_neg (nI_ge (by omega) (by omega)), e2, nI_1, ih n (s + 1) (by omega) (by omega)]
theorem mul_of {V S : Nat} (hS : 0 < S) (hS2 : S < 2 ^ 31) (hV : V < 2 ^ 31) : (f_X6_isMultiple (nI V) (nI S) = 0 ↔ ¬ V % S = 0) ∧ f_X6_quotient (nI V) (nI S) = nI (V / S) := by
  unfold f_X6_isMultiple f_X6_quotient
  rw [if_neg (nI_nle hS hS2), if_neg (nI_nle hS hS2), pk_rem hV hS hS2, pk_div hV hS hS2]
  refine ⟨?_, rfl⟩
  have hm : V % S < 2 ^ 31 := Nat.lt_of_le_of_lt (Nat.mod_le _ _) hV
  by_cases q : V % S = 0
  · rw [if_pos (by rw [q]; exact nI_0)]
    exact ⟨fun e => absurd e i10, fun e => absurd q e⟩
  · rw [if_neg (fun e => q ((nI_eq hm (by decide)).mp (e.trans nI_0.symm)))]
    exact ⟨fun _ => q, fun _ => rfl⟩
