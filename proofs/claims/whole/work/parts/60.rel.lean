/-! what ties the state of MudShares to that of the reference -/
def ST (tc : Int32) (hd wt am wa ww : Nat → Int32) : Prop :=
  (∀ k : Nat, k < 16 → hd k = am k) ∧ (∀ t : Nat, t < 4 → hd (16 + t) = wa t) ∧ (∀ t : Nat, t < 4 → wt t = ww t) ∧ (∀ k : Nat, k < 20 → ∃ n : Nat, n ≤ 20 ∧ hd k = nI n) ∧ (∀ t : Nat, t < 4 → ∃ n : Nat, n ≤ 5 ∧ wt t = nI n) ∧ (∀ s t : Nat, s < 4 → t < 4 → tc ≤ nI t → am (4 * s + t) = 0) ∧ (∀ t : Nat, t < 4 → tc ≤ nI t → wa t = 0)
def CT (N : Nat) (x : Int64) (y : Int32) : Prop := ∃ n : Nat, n ≤ N ∧ y = nI n ∧ x = lN n
def REL (N : Nat) (xrd xal : Int64) (xpl : Int32) (xpc : Nat → Int32) (xsc xtc : Int32) (xhd xwt : Nat → Int32) (mpl msc mtc msr mal : Int32) (mpg mam mwa mww mmb : Nat → Int32) : Prop :=
  (∃ n : Nat, n ≤ 47 ∧ mpl = nI n) ∧ xpl = mpl ∧ xpc = mpg ∧ xsc = msc ∧ xtc = mtc ∧ LE4 msc ∧ LE4 mtc ∧ CT N xrd msr ∧ CT N xal mal ∧ MB mmb ∧ ST mtc xhd xwt mam mwa mww ∧ N < 1000 ∧ (msc = 0 → mtc = 0)
theorem CT.mono {N M : Nat} {x : Int64} {y : Int32} (h : CT N x y) (hNM : N ≤ M) : CT M x y := by obtain ⟨n, h1, h2⟩ := h; exact ⟨n, by omega, h2⟩
