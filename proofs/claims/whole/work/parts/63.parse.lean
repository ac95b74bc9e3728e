def DN (a b c k : Nat) : Prop := (k / 4 < a ∧ k % 4 < c) ∨ (k / 4 = a ∧ k % 4 < b)
def NUM (nu fi nw : Int32) : Prop := (nu = -1 ∧ fi = 0 ∧ nw = 0) ∨ ∃ n : Nat, n ≤ 20 ∧ nu = nI n ∧ nw = nI n ∧ ((fi = 1 ∧ n < 10) ∨ (fi = 2 ∧ 10 ≤ n))
def DR (a b c : Nat) (dr na : Nat → Int32) : Prop := ∀ k : Nat, k < 16 → (DN a b c k → dr k = na k ∧ ∃ n : Nat, n ≤ 20 ∧ dr k = nI n) ∧ (¬ DN a b c k → dr k = 0)
def SIM (so tr wi nu : Int32) (dr : Nat → Int32) (ns nn nt fi nw : Int32) (na : Nat → Int32) : Prop := ∃ a b c : Nat, a < 4 ∧ b < 4 ∧ c ≤ 4 ∧ (a = 0 ↔ c = 0) ∧ (a = 0 ∨ b < c) ∧ so = nI a ∧ tr = nI b ∧ wi = nI c ∧ ns = nI a ∧ nn = nI b ∧ nt = nI c ∧ NUM nu fi nw ∧ DR a b c dr na
theorem nIm1 {n : Nat} (h : n < 2 ^ 31) : ¬ nI n = -1 := fun e => by
  have h1 := congrArg Int32.toInt e
  rw [nI_toInt h] at h1
  have : (-1 : Int32).toInt = -1 := by decide
  omega
theorem DR_put {a b c : Nat} {dr na : Nat → Int32} {n : Nat} (ha : a < 4) (hb : b < 4) (hn : n ≤ 20) (h : DR a b c dr na) : DR a (b + 1) c (upd dr (a * 4 + b) (nI n)) (upd na (a * 4 + b) (nI n)) := by
  intro k hk
  unfold upd
  by_cases e : k = a * 4 + b
  · subst e
    simp only [if_true]
    refine ⟨fun _ => ⟨trivial, n, hn, rfl⟩, fun q => absurd (Or.inr ⟨by omega, by omega⟩) q⟩
  · simp only [if_neg e]
    obtain ⟨h1, h2⟩ := h k hk
    refine ⟨fun q => h1 ?_, fun q => h2 (fun r => q ?_)⟩
    · unfold DN at q ⊢; omega
    · unfold DN at r ⊢; omega
theorem DR_semi {a b c : Nat} {dr na : Nat → Int32} (ha : a < 4) (hb : b < 4) (hac : a = 0 ∨ c = b + 1) (h : DR a (b + 1) c dr na) : DR (a + 1) 0 (b + 1) dr na := by
  intro k hk
  obtain ⟨h1, h2⟩ := h k hk
  refine ⟨fun q => h1 ?_, fun q => h2 (fun r => q ?_)⟩
  · unfold DN at q ⊢; omega
  · unfold DN at r ⊢; omega
theorem keep_at {a b : Nat} {nu : Int32} {dr : Nat → Int32} (ha : a < 4) (hb : b < 4) : f_X5_keepNumber (nI a) (nI b) nu dr = (-1, upd dr (a * 4 + b) nu) := by
  have e : nI a * 4 + nI b = nI (a * 4 + b) := by
    show nI a * nI 4 + nI b = _
    rw [pk_mul, nI_add]
  unfold f_X5_keepNumber
  rw [e, if_neg (nI_pos (by omega)), if_neg (show ¬ (16 : Int32) ≤ nI (a * 4 + b) from nI_ge (b := 16) (by omega) (by decide)), nI_clamp (by omega)]
theorem endN_at {a b : Nat} {nw : Int32} {na : Nat → Int32} (ha : a < 4) (hb : b < 4) : f_X7_endNumber (nI a) (nI b) nw na = (nI (b + 1), 0, 0, upd na (a * 4 + b) nw) := by
  unfold f_X7_endNumber
  rw [ix4 ha hb, nI_1]
theorem takes_other {so tr wi nu ns nn nt fi nw q : Int32} {dr na : Nat → Int32} (h1 : f_X7_within q 48 57 = 0) (h2 : ¬ q = 44) (h3 : ¬ q = 59) : (f_X5_takes so tr wi nu dr q).1 = 0 ∧ (f_X7_takes ns nn nt fi nw na q).1 = 0 := by
  unfold f_X5_takes f_X7_takes
  rw [if_pos h1]
  simp only [if_neg h2, if_neg h3]
  refine ⟨?_, trivial⟩
  unfold f_X7_within at h1
  by_cases c : q < 48
  · rw [if_pos c]
  · rw [if_neg c] at h1 ⊢
    by_cases c2 : 57 < q
    · rw [if_pos c2]
    · rw [if_neg c2] at h1; exact absurd h1 i10
theorem takes_digit {a b c d : Nat} {nu fi nw : Int32} {dr na : Nat → Int32} (hd : d ≤ 9) (hnum : NUM nu fi nw) :
    ((f_X5_takes (nI a) (nI b) (nI c) nu dr (nI (48 + d))).1 = 0 ∧ (f_X7_takes (nI a) (nI b) (nI c) fi nw na (nI (48 + d))).1 = 0) ∨ ∃ nu' fi' nw' : Int32, NUM nu' fi' nw' ∧ f_X5_takes (nI a) (nI b) (nI c) nu dr (nI (48 + d)) = (1, nI a, nI b, nI c, nu', dr) ∧ f_X7_takes (nI a) (nI b) (nI c) fi nw na (nI (48 + d)) = (1, nI a, nI b, nI c, fi', nw', na) := by
  have e1 : ¬ nI (48 + d) = 44 := fun e => by have := (nI_eq (b := 44) (by omega) (by decide)).mp e; omega
  have e2 : ¬ nI (48 + d) = 59 := fun e => by have := (nI_eq (b := 59) (by omega) (by decide)).mp e; omega
  have e3 : ¬ nI (48 + d) < 48 := nI_nlt (b := 48) (by omega) (by omega)
  have e4 : ¬ (57 : Int32) < nI (48 + d) := nI_nlt (a := 57) (by omega) (by decide)
  have e5 : nI (48 + d) - 48 = nI d := by
    have := pk_sub (a := 48 + d) (b := 48) (by omega)
    rw [show 48 + d - 48 = d by omega] at this
    exact this
  have e6 : ¬ f_X7_within (nI (48 + d)) 48 57 = 0 := by
    unfold f_X7_within
    rw [if_neg e3, if_neg e4]; exact i10
  unfold f_X5_takes f_X7_takes f_X5_takesFigure
  rw [if_neg e1, if_neg e2, if_neg e3, if_neg e4, if_neg e6, e5]
  dsimp only
  rcases hnum with ⟨rfl, rfl, rfl⟩ | ⟨n, hn, rfl, rfl, hf⟩
  · right
    refine ⟨nI d, 1, nI d, Or.inr ⟨d, by omega, rfl, rfl, Or.inl ⟨rfl, by omega⟩⟩, ?_, ?_⟩
    · rw [if_pos rfl, if_neg i10]
    · have e7 : (10 : Int32) * 0 + nI (48 + d) - 48 = nI d := by
        rw [show (10 : Int32) * 0 = nI 0 by decide, nI_add, Nat.zero_add]; exact e5
      rw [if_pos rfl, if_neg i10, if_neg i10, e7]
      rfl
  · have m1 : nI n * 10 + nI d = nI (n * 10 + d) := by
      show nI n * nI 10 + nI d = _
      rw [pk_mul, nI_add]
    have m2 : (10 : Int32) * nI n + nI (48 + d) - 48 = nI (n * 10 + d) := by
      show nI 10 * nI n + nI (48 + d) - nI 48 = _
      rw [pk_mul, nI_add, pk_sub (by omega)]
      congr 1
      omega
    rw [if_neg (nIm1 (by omega)), m1, m2]
    by_cases hz : n = 0
    · subst hz
      left
      rw [if_pos (show nI 0 = 0 by decide)]
      refine ⟨by rw [if_pos rfl], ?_⟩
      rcases hf with ⟨rfl, -⟩ | ⟨-, h10⟩
      · rw [if_neg i10, if_pos rfl, if_pos (show nI 0 ≤ 0 by decide)]
      · omega
    · rw [if_neg (nI_ne0 (by omega) (by omega))]
      rcases hf with ⟨rfl, h10⟩ | ⟨rfl, h10⟩
      · rw [if_neg i10, if_pos rfl, if_neg (nI_nle (by omega) (by omega))]
        rcases Nat.lt_or_ge 20 (n * 10 + d) with g | g
        · left
          rw [if_neg (show ¬ nI (n * 10 + d) ≤ 20 from nI_ge (a := 20) g (by omega)), if_pos (show (20 : Int32) < nI (n * 10 + d) from nI_lt (a := 20) g (by omega))]
          exact ⟨by rw [if_pos rfl], rfl⟩
        · right
          rw [if_pos (show nI (n * 10 + d) ≤ 20 from nI_le (b := 20) g (by decide)), if_neg (show ¬ (20 : Int32) < nI (n * 10 + d) from nI_nlt (a := 20) g (by decide))]
          refine ⟨nI (n * 10 + d), 2, nI (n * 10 + d), Or.inr ⟨n * 10 + d, g, rfl, rfl, Or.inr ⟨rfl, by omega⟩⟩, ?_, ?_⟩
          · rw [if_neg i10]
          · rw [if_neg i10, if_neg i10]; rfl
      · left
        rw [if_neg (show ¬ (2 : Int32) = 0 by decide), if_neg (show ¬ (2 : Int32) = 1 by decide)]
        rw [if_neg (show ¬ nI (n * 10 + d) ≤ 20 from nI_ge (a := 20) (by omega) (by omega))]
        exact ⟨by rw [if_pos rfl], rfl⟩
