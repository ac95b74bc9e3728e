def uI (wt : Nat → Int32) (us : Int32) (t : Nat) : Int := if t < 4 then (UW wt us t).toInt else 0
def xI (hd : Nat → Int32) (s t : Nat) : Int := (XV hd s t).toInt
def RW (wt : Nat → Int32) : Prop := ∀ t : Nat, t < 4 → ∃ n : Nat, n ≤ 5 ∧ wt t = nI n
theorem uI_rg {wt : Nat → Int32} {us : Int32} {t : Nat} (h : RW wt) : 0 ≤ uI wt us t ∧ uI wt us t ≤ 5 := by
  unfold uI
  split
  · rename_i ht
    obtain ⟨n, hn, e⟩ := h t ht
    unfold UW
    split
    · exact ⟨by decide, by decide⟩
    · rw [e, nI_l (by omega), lN_toInt (by omega)]
      omega
  · exact ⟨by decide, by decide⟩
theorem xI_rg {hd : Nat → Int32} {s t : Nat} (h : RG hd) (hs : s < 5) (ht : t < 4) : 0 ≤ xI hd s t ∧ xI hd s t ≤ 20 := by
  unfold xI XV
  obtain ⟨n, hn, e⟩ := h (s * 4 + t) (by omega)
  rw [e, nI_l (by omega), lN_toInt (by omega)]
  omega
theorem UW_I {wt : Nat → Int32} {us : Int32} {t : Nat} (ht : t < 4) : UW wt us t = Int64.ofInt (uI wt us t) := by
  unfold uI
  rw [if_pos ht, Int64.ofInt_toInt]
theorem XV_I {hd : Nat → Int32} {s t : Nat} : XV hd s t = Int64.ofInt (xI hd s t) := (Int64.ofInt_toInt _).symm
theorem GB_I {hd wt : Nat → Int32} {us : Int32} {o a b : Nat} : GB hd wt us o a b = Int64.ofInt (WI (uI wt us) (fun t => xI hd a t - xI hd o t) (fun t => xI hd b t - xI hd o t)) := by
  unfold GB WI
  simp only [ts, Int64.ofInt_add, Int64.ofInt_mul, Int64.ofInt_sub]
  rw [← UW_I (show 0 < 4 by decide), ← UW_I (show 1 < 4 by decide), ← UW_I (show 2 < 4 by decide), ← UW_I (show 3 < 4 by decide)]
  simp only [← XV_I]
  grind
theorem mb {a b A B : Int} (h1 : -A ≤ a) (h2 : a ≤ A) (h3 : -B ≤ b) (h4 : b ≤ B) : -(A * B) ≤ a * b ∧ a * b ≤ A * B := by
  have p1 := Int.mul_nonneg (show 0 ≤ A - a by omega) (show 0 ≤ B + b by omega)
  have p2 := Int.mul_nonneg (show 0 ≤ A + a by omega) (show 0 ≤ B - b by omega)
  have p3 := Int.mul_nonneg (show 0 ≤ A - a by omega) (show 0 ≤ B - b by omega)
  have p4 := Int.mul_nonneg (show 0 ≤ A + a by omega) (show 0 ≤ B + b by omega)
  have e1 : (A - a) * (B + b) = A * B + A * b - a * B - a * b := by grind
  have e2 : (A + a) * (B - b) = A * B - A * b + a * B - a * b := by grind
  have e3 : (A - a) * (B - b) = A * B - A * b - a * B + a * b := by grind
  have e4 : (A + a) * (B + b) = A * B + A * b + a * B + a * b := by grind
  rw [e1] at p1
  rw [e2] at p2
  rw [e3] at p3
  rw [e4] at p4
  generalize A * B = q at *
  generalize A * b = q1 at *
  generalize a * B = q2 at *
  generalize a * b = q3 at *
  omega
def Bd (x : Int64) (z B : Int) : Prop := x = Int64.ofInt z ∧ -B ≤ z ∧ z ≤ B
theorem Bd.mul {x y : Int64} {z w A B : Int} (h : Bd x z A) (g : Bd y w B) : Bd (x * y) (z * w) (A * B) := by
  obtain ⟨e1, h1, h2⟩ := h
  obtain ⟨e2, g1, g2⟩ := g
  exact ⟨by rw [e1, e2, Int64.ofInt_mul], mb h1 h2 g1 g2⟩
theorem Bd.add {x y : Int64} {z w A B : Int} (h : Bd x z A) (g : Bd y w B) : Bd (x + y) (z + w) (A + B) := by
  obtain ⟨e1, h1, h2⟩ := h
  obtain ⟨e2, g1, g2⟩ := g
  exact ⟨by rw [e1, e2, Int64.ofInt_add], by omega, by omega⟩
theorem Bd.sub {x y : Int64} {z w A B : Int} (h : Bd x z A) (g : Bd y w B) : Bd (x - y) (z - w) (A + B) := by
  obtain ⟨e1, h1, h2⟩ := h
  obtain ⟨e2, g1, g2⟩ := g
  exact ⟨by rw [e1, e2, Int64.ofInt_sub], by omega, by omega⟩
theorem Bd.mono {x : Int64} {z A B : Int} (h : Bd x z A) (hB : A ≤ B) : Bd x z B := ⟨h.1, by have := h.2.1; omega, by have := h.2.2; omega⟩
theorem Bd.toInt {x : Int64} {z A : Int} (h : Bd x z A) (hA : A < 2 ^ 63) : x.toInt = z := by
  obtain ⟨e, h1, h2⟩ := h
  rw [e]
  exact Int64.toInt_ofInt_of_le (by omega) (by omega)
theorem Bd.ab {x : Int64} {z A : Int} (h : Bd x z A) (hA : A < 2 ^ 63) : AB x z.natAbs := by
  obtain ⟨e, h1, h2⟩ := h
  rw [e]
  exact AB_of (by omega) (by omega)
theorem Bd.lN {x : Int64} {z A : Int} (h : Bd x z A) (hA : A < 2 ^ 63) (h0 : 0 ≤ z) : z.natAbs < 2 ^ 63 ∧ x = lN z.natAbs := by
  obtain ⟨e, h1, h2⟩ := h
  refine ⟨by omega, ?_⟩
  rw [e]
  conv => lhs; rw [show z = (z.natAbs : Int) by omega]
  exact Int64.ofInt_eq_ofNat
theorem Bd_D3 {m : Nat → Int64} {z : Nat → Int} (h : ∀ q : Nat, q < 9 → Bd (m q) (z q) 8000) : Bd (D3 m) (D3I z) 3072000000000 := by
  have h0 := h 0 (by omega)
  have h1 := h 1 (by omega)
  have h2 := h 2 (by omega)
  have h3 := h 3 (by omega)
  have h4 := h 4 (by omega)
  have h5 := h 5 (by omega)
  have h6 := h 6 (by omega)
  have h7 := h 7 (by omega)
  have h8 := h 8 (by omega)
  unfold D3 D3I
  exact (((h0.mul ((h4.mul h8).sub (h5.mul h7))).add (h1.mul ((h5.mul h6).sub (h3.mul h8)))).add (h2.mul ((h3.mul h7).sub (h4.mul h6)))).mono (by decide)
theorem WI_rg {u x y : Nat → Int} (hu : ∀ t : Nat, 0 ≤ u t ∧ u t ≤ 5) (hx : ∀ t : Nat, t < 4 → -20 ≤ x t ∧ x t ≤ 20) (hy : ∀ t : Nat, t < 4 → -20 ≤ y t ∧ y t ≤ 20) : -8000 ≤ WI u x y ∧ WI u x y ≤ 8000 := by
  have h : ∀ t : Nat, t < 4 → -(5 * 20 * 20) ≤ u t * x t * y t ∧ u t * x t * y t ≤ 5 * 20 * 20 := fun t ht => by
    have a := hu t
    have b := hx t ht
    have c := hy t ht
    have d := mb (a := u t) (A := 5) (by omega) (by omega) b.1 b.2
    exact mb d.1 d.2 c.1 c.2
  have h0 := h 0 (by omega)
  have h1 := h 1 (by omega)
  have h2 := h 2 (by omega)
  have h3 := h 3 (by omega)
  unfold WI
  omega
theorem WI_comm {u x y : Nat → Int} : WI u x y = WI u y x := by unfold WI; grind
theorem WI_0l {u y : Nat → Int} : WI u (fun _ => 0) y = 0 := by unfold WI; grind
theorem WI_0r {u x : Nat → Int} : WI u x (fun _ => 0) = 0 := by unfold WI; grind
def wI (hd : Nat → Int32) (mj : Nat → Nat) (k i : Nat) : Nat → Int := if i + 1 < k then fun t => xI hd (mj (i + 1)) t - xI hd (mj 0) t else fun _ => 0
def yI (hd : Nat → Int32) (mj : Nat → Nat) : Nat → Int := fun t => xI hd 4 t - xI hd (mj 0) t
def padI (k i : Nat) : Int := if i + 1 < k then 0 else 1
def paI (hd wt : Nat → Int32) (us : Int32) (mj : Nat → Nat) (k q : Nat) : Int := WI (uI wt us) (wI hd mj k (q / 3)) (wI hd mj k (q % 3)) + (if q / 3 = q % 3 then padI k (q / 3) else 0)
def goI (hd wt : Nat → Int32) (us : Int32) (mj : Nat → Nat) (k q : Nat) : Int := WI (uI wt us) (wI hd mj k q) (yI hd mj)
theorem wI_rg {hd : Nat → Int32} {mj : Nat → Nat} {k i t : Nat} (h : RG hd) (hmj : ∀ j : Nat, mj j < 4) (ht : t < 4) : -20 ≤ wI hd mj k i t ∧ wI hd mj k i t ≤ 20 := by
  unfold wI
  split
  · have a := hmj (i + 1)
    have b := hmj 0
    have c := xI_rg h (show mj (i + 1) < 5 by omega) ht
    have d := xI_rg h (show mj 0 < 5 by omega) ht
    show -20 ≤ xI hd (mj (i + 1)) t - xI hd (mj 0) t ∧ xI hd (mj (i + 1)) t - xI hd (mj 0) t ≤ 20
    omega
  · exact ⟨show (-20 : Int) ≤ 0 by decide, show (0 : Int) ≤ 20 by decide⟩
theorem yI_rg {hd : Nat → Int32} {mj : Nat → Nat} {t : Nat} (h : RG hd) (hmj : ∀ j : Nat, mj j < 4) (ht : t < 4) : -20 ≤ yI hd mj t ∧ yI hd mj t ≤ 20 := by
  have b := hmj 0
  have c := xI_rg h (show 4 < 5 by omega) ht
  have d := xI_rg h (show mj 0 < 5 by omega) ht
  show -20 ≤ xI hd 4 t - xI hd (mj 0) t ∧ xI hd 4 t - xI hd (mj 0) t ≤ 20
  omega
theorem Bd_PA {hd wt : Nat → Int32} {us : Int32} {mj : Nat → Nat} {k q : Nat} (h : RG hd) (hw : RW wt) (hmj : ∀ j : Nat, mj j < 4) : Bd (PAf hd wt us mj k q) (paI hd wt us mj k q) 8000 := by
  have hb := WI_rg (u := uI wt us) (x := wI hd mj k (q / 3)) (y := wI hd mj k (q % 3)) (fun t => uI_rg hw) (fun t ht => wI_rg h hmj ht) (fun t ht => wI_rg h hmj ht)
  unfold PAf paI
  by_cases c : q / 3 + 1 < k
  · rw [if_pos c]
    by_cases c2 : k ≤ q % 3 + 1
    · rw [if_pos c2, if_neg (by omega)]
      have e : wI hd mj k (q % 3) = fun _ => 0 := if_neg (by omega)
      rw [e, WI_0r]
      exact ⟨rfl, by decide, by decide⟩
    · rw [if_neg c2]
      have e1 : wI hd mj k (q / 3) = fun t => xI hd (mj (q / 3 + 1)) t - xI hd (mj 0) t := if_pos c
      have e2 : wI hd mj k (q % 3) = fun t => xI hd (mj (q % 3 + 1)) t - xI hd (mj 0) t := if_pos (by omega)
      have e3 : (if q / 3 = q % 3 then padI k (q / 3) else 0) = 0 := by
        split
        · exact if_pos c
        · rfl
      rw [e3, Int.add_zero]
      refine ⟨?_, hb⟩
      rw [GB_I, e1, e2]
  · rw [if_neg c]
    have e : wI hd mj k (q / 3) = fun _ => 0 := if_neg c
    rw [e, WI_0l]
    have e2 : padI k (q / 3) = 1 := if_neg c
    rw [e2]
    split
    · exact ⟨rfl, by decide, by decide⟩
    · exact ⟨rfl, by decide, by decide⟩
theorem Bd_GO {hd wt : Nat → Int32} {us : Int32} {mj : Nat → Nat} {k q : Nat} (h : RG hd) (hw : RW wt) (hmj : ∀ j : Nat, mj j < 4) : Bd (GOf hd wt us mj k q) (goI hd wt us mj k q) 8000 := by
  have hb := WI_rg (u := uI wt us) (x := wI hd mj k q) (y := yI hd mj) (fun t => uI_rg hw) (fun t ht => wI_rg h hmj ht) (fun t ht => yI_rg h hmj ht)
  refine ⟨?_, hb⟩
  unfold GOf goI
  by_cases c : q + 1 < k
  · rw [if_pos c]
    have e1 : wI hd mj k q = fun t => xI hd (mj (q + 1)) t - xI hd (mj 0) t := if_pos c
    rw [GB_I, e1]
    rfl
  · rw [if_neg c]
    have e : wI hd mj k q = fun _ => 0 := if_neg c
    rw [e, WI_0l]
    rfl
def RCI (pa go : Nat → Int) (c : Nat) : Nat → Int := fun q => if q % 3 = c then go (q / 3) else pa q
def dI (hd wt : Nat → Int32) (us : Int32) (mj : Nat → Nat) (k : Nat) : Int := D3I (paI hd wt us mj k)
def pI (hd wt : Nat → Int32) (us : Int32) (mj : Nat → Nat) (k i : Nat) : Int := D3I (RCI (paI hd wt us mj k) (goI hd wt us mj k) i)
def fI (hd wt : Nat → Int32) (us : Int32) (mj : Nat → Nat) (k : Nat) : Int := WI (uI wt us) (yI hd mj) (yI hd mj) * dI hd wt us mj k - goI hd wt us mj k 0 * pI hd wt us mj k 0 - goI hd wt us mj k 1 * pI hd wt us mj k 1 - goI hd wt us mj k 2 * pI hd wt us mj k 2
theorem Bd_D {hd wt : Nat → Int32} {us : Int32} {mj : Nat → Nat} {k : Nat} (h : RG hd) (hw : RW wt) (hmj : ∀ j : Nat, mj j < 4) : Bd (mD hd wt us mj k) (dI hd wt us mj k) 3072000000000 := Bd_D3 (fun q _ => Bd_PA h hw hmj)
theorem Bd_P {hd wt : Nat → Int32} {us : Int32} {mj : Nat → Nat} {k i : Nat} (h : RG hd) (hw : RW wt) (hmj : ∀ j : Nat, mj j < 4) : Bd (mP hd wt us mj k i) (pI hd wt us mj k i) 3072000000000 := Bd_D3 (fun q _ => by
  unfold RC RCI
  split
  · exact Bd_GO h hw hmj
  · exact Bd_PA h hw hmj)
theorem Bd_F {hd wt : Nat → Int32} {us : Int32} {mj : Nat → Nat} {k : Nat} (h : RG hd) (hw : RW wt) (hmj : ∀ j : Nat, mj j < 4) : Bd (mF hd wt us mj k) (fI hd wt us mj k) 98304000000000000 := by
  have hb := WI_rg (u := uI wt us) (x := yI hd mj) (y := yI hd mj) (fun t => uI_rg hw) (fun t ht => yI_rg h hmj ht) (fun t ht => yI_rg h hmj ht)
  have h44 : Bd (GB hd wt us (mj 0) 4 4) (WI (uI wt us) (yI hd mj) (yI hd mj)) 8000 := ⟨GB_I, hb⟩
  unfold mF fI
  exact ((((h44.mul (Bd_D h hw hmj)).sub ((Bd_GO h hw hmj).mul (Bd_P h hw hmj))).sub ((Bd_GO h hw hmj).mul (Bd_P h hw hmj))).sub ((Bd_GO h hw hmj).mul (Bd_P h hw hmj))).mono (by decide)
theorem dI_at {hd wt : Nat → Int32} {us : Int32} {mj : Nat → Nat} {k : Nat} : dI hd wt us mj k = Qd (WI (uI wt us) (wI hd mj k 0) (wI hd mj k 0) + padI k 0) (WI (uI wt us) (wI hd mj k 0) (wI hd mj k 1)) (WI (uI wt us) (wI hd mj k 0) (wI hd mj k 2)) (WI (uI wt us) (wI hd mj k 1) (wI hd mj k 1) + padI k 1) (WI (uI wt us) (wI hd mj k 1) (wI hd mj k 2)) (WI (uI wt us) (wI hd mj k 2) (wI hd mj k 2) + padI k 2) := by
  unfold dI D3I Qd
  have e0 : paI hd wt us mj k 0 = WI (uI wt us) (wI hd mj k 0) (wI hd mj k 0) + padI k 0 := rfl
  have e1 : paI hd wt us mj k 1 = WI (uI wt us) (wI hd mj k 0) (wI hd mj k 1) + 0 := rfl
  have e2 : paI hd wt us mj k 2 = WI (uI wt us) (wI hd mj k 0) (wI hd mj k 2) + 0 := rfl
  have e3 : paI hd wt us mj k 3 = WI (uI wt us) (wI hd mj k 1) (wI hd mj k 0) + 0 := rfl
  have e4 : paI hd wt us mj k 4 = WI (uI wt us) (wI hd mj k 1) (wI hd mj k 1) + padI k 1 := rfl
  have e5 : paI hd wt us mj k 5 = WI (uI wt us) (wI hd mj k 1) (wI hd mj k 2) + 0 := rfl
  have e6 : paI hd wt us mj k 6 = WI (uI wt us) (wI hd mj k 2) (wI hd mj k 0) + 0 := rfl
  have e7 : paI hd wt us mj k 7 = WI (uI wt us) (wI hd mj k 2) (wI hd mj k 1) + 0 := rfl
  have e8 : paI hd wt us mj k 8 = WI (uI wt us) (wI hd mj k 2) (wI hd mj k 2) + padI k 2 := rfl
  rw [WI_comm] at e3 e6 e7
  rw [e0, e1, e2, e3, e4, e5, e6, e7, e8]
  generalize WI (uI wt us) (wI hd mj k 0) (wI hd mj k 0) + padI k 0 = a
  generalize WI (uI wt us) (wI hd mj k 0) (wI hd mj k 1) = b
  generalize WI (uI wt us) (wI hd mj k 0) (wI hd mj k 2) = c
  generalize WI (uI wt us) (wI hd mj k 1) (wI hd mj k 1) + padI k 1 = d
  generalize WI (uI wt us) (wI hd mj k 1) (wI hd mj k 2) = e
  generalize WI (uI wt us) (wI hd mj k 2) (wI hd mj k 2) + padI k 2 = f
  grind
theorem padI_0 {k i : Nat} : 0 ≤ padI k i := by unfold padI; split <;> decide
theorem dI_nn {hd wt : Nat → Int32} {us : Int32} {mj : Nat → Nat} {k : Nat} (hw : RW wt) : 0 ≤ dI hd wt us mj k := by
  rw [dI_at]
  exact gram_det (fun t => (uI_rg hw).1) padI_0 padI_0 padI_0
theorem fI_nn {hd wt : Nat → Int32} {us : Int32} {mj : Nat → Nat} {k : Nat} (hw : RW wt) (h0 : 0 < dI hd wt us mj k) : 0 ≤ fI hd wt us mj k := by
  have e0 : paI hd wt us mj k 0 = WI (uI wt us) (wI hd mj k 0) (wI hd mj k 0) + padI k 0 := rfl
  have e1 : paI hd wt us mj k 1 = WI (uI wt us) (wI hd mj k 0) (wI hd mj k 1) + 0 := rfl
  have e2 : paI hd wt us mj k 2 = WI (uI wt us) (wI hd mj k 0) (wI hd mj k 2) + 0 := rfl
  have e3 : paI hd wt us mj k 3 = WI (uI wt us) (wI hd mj k 1) (wI hd mj k 0) + 0 := rfl
  have e4 : paI hd wt us mj k 4 = WI (uI wt us) (wI hd mj k 1) (wI hd mj k 1) + padI k 1 := rfl
  have e5 : paI hd wt us mj k 5 = WI (uI wt us) (wI hd mj k 1) (wI hd mj k 2) + 0 := rfl
  have e6 : paI hd wt us mj k 6 = WI (uI wt us) (wI hd mj k 2) (wI hd mj k 0) + 0 := rfl
  have e7 : paI hd wt us mj k 7 = WI (uI wt us) (wI hd mj k 2) (wI hd mj k 1) + 0 := rfl
  have e8 : paI hd wt us mj k 8 = WI (uI wt us) (wI hd mj k 2) (wI hd mj k 2) + padI k 2 := rfl
  rw [WI_comm] at e3 e6 e7
  have g0 : goI hd wt us mj k 0 = WI (uI wt us) (wI hd mj k 0) (yI hd mj) := rfl
  have g1 : goI hd wt us mj k 1 = WI (uI wt us) (wI hd mj k 1) (yI hd mj) := rfl
  have g2 : goI hd wt us mj k 2 = WI (uI wt us) (wI hd mj k 2) (yI hd mj) := rfl
  have q0 : pI hd wt us mj k 0 = goI hd wt us mj k 0 * (paI hd wt us mj k 4 * paI hd wt us mj k 8 - paI hd wt us mj k 5 * paI hd wt us mj k 7) + paI hd wt us mj k 1 * (paI hd wt us mj k 5 * goI hd wt us mj k 2 - goI hd wt us mj k 1 * paI hd wt us mj k 8) + paI hd wt us mj k 2 * (goI hd wt us mj k 1 * paI hd wt us mj k 7 - paI hd wt us mj k 4 * goI hd wt us mj k 2) := rfl
  have q1 : pI hd wt us mj k 1 = paI hd wt us mj k 0 * (goI hd wt us mj k 1 * paI hd wt us mj k 8 - paI hd wt us mj k 5 * goI hd wt us mj k 2) + goI hd wt us mj k 0 * (paI hd wt us mj k 5 * paI hd wt us mj k 6 - paI hd wt us mj k 3 * paI hd wt us mj k 8) + paI hd wt us mj k 2 * (paI hd wt us mj k 3 * goI hd wt us mj k 2 - goI hd wt us mj k 1 * paI hd wt us mj k 6) := rfl
  have q2 : pI hd wt us mj k 2 = paI hd wt us mj k 0 * (paI hd wt us mj k 4 * goI hd wt us mj k 2 - goI hd wt us mj k 1 * paI hd wt us mj k 7) + paI hd wt us mj k 1 * (goI hd wt us mj k 1 * paI hd wt us mj k 6 - paI hd wt us mj k 3 * goI hd wt us mj k 2) + goI hd wt us mj k 0 * (paI hd wt us mj k 3 * paI hd wt us mj k 7 - paI hd wt us mj k 4 * paI hd wt us mj k 6) := rfl
  have qd : dI hd wt us mj k = paI hd wt us mj k 0 * (paI hd wt us mj k 4 * paI hd wt us mj k 8 - paI hd wt us mj k 5 * paI hd wt us mj k 7) + paI hd wt us mj k 1 * (paI hd wt us mj k 5 * paI hd wt us mj k 6 - paI hd wt us mj k 3 * paI hd wt us mj k 8) + paI hd wt us mj k 2 * (paI hd wt us mj k 3 * paI hd wt us mj k 7 - paI hd wt us mj k 4 * paI hd wt us mj k 6) := rfl
  rw [e0, e1, e2, e3, e4, e5, e6, e7, e8] at qd
  rw [e1, e2, e4, e5, e7, e8, g0, g1, g2] at q0
  rw [e0, e2, e3, e5, e6, e8, g0, g1, g2] at q1
  rw [e0, e1, e3, e4, e6, e7, g0, g1, g2] at q2
  have h : 0 ≤ dI hd wt us mj k * fI hd wt us mj k := by
    unfold fI
    rw [g0, g1, g2]
    refine ls_pos (l := padI k 0) (m := padI k 1) (n := padI k 2) (fun t => (uI_rg hw).1) padI_0 padI_0 padI_0 ?_ ?_ ?_
    · rw [q0, q1, q2, qd]
      generalize WI (uI wt us) (wI hd mj k 0) (wI hd mj k 0) + padI k 0 = a
      generalize WI (uI wt us) (wI hd mj k 0) (wI hd mj k 1) = b
      generalize WI (uI wt us) (wI hd mj k 0) (wI hd mj k 2) = c
      generalize WI (uI wt us) (wI hd mj k 1) (wI hd mj k 1) + padI k 1 = d
      generalize WI (uI wt us) (wI hd mj k 1) (wI hd mj k 2) = e
      generalize WI (uI wt us) (wI hd mj k 2) (wI hd mj k 2) + padI k 2 = f
      clear q0 q1 q2 qd e0 e1 e2 e3 e4 e5 e6 e7 e8 g0 g1 g2 h0
      grind
    · rw [q0, q1, q2, qd]
      generalize WI (uI wt us) (wI hd mj k 0) (wI hd mj k 0) + padI k 0 = a
      generalize WI (uI wt us) (wI hd mj k 0) (wI hd mj k 1) = b
      generalize WI (uI wt us) (wI hd mj k 0) (wI hd mj k 2) = c
      generalize WI (uI wt us) (wI hd mj k 1) (wI hd mj k 1) + padI k 1 = d
      generalize WI (uI wt us) (wI hd mj k 1) (wI hd mj k 2) = e
      generalize WI (uI wt us) (wI hd mj k 2) (wI hd mj k 2) + padI k 2 = f
      clear q0 q1 q2 qd e0 e1 e2 e3 e4 e5 e6 e7 e8 g0 g1 g2 h0
      grind
    · rw [q0, q1, q2, qd]
      generalize WI (uI wt us) (wI hd mj k 0) (wI hd mj k 0) + padI k 0 = a
      generalize WI (uI wt us) (wI hd mj k 0) (wI hd mj k 1) = b
      generalize WI (uI wt us) (wI hd mj k 0) (wI hd mj k 2) = c
      generalize WI (uI wt us) (wI hd mj k 1) (wI hd mj k 1) + padI k 1 = d
      generalize WI (uI wt us) (wI hd mj k 1) (wI hd mj k 2) = e
      generalize WI (uI wt us) (wI hd mj k 2) (wI hd mj k 2) + padI k 2 = f
      clear q0 q1 q2 qd e0 e1 e2 e3 e4 e5 e6 e7 e8 g0 g1 g2 h0
      grind
  rcases Int.le_total 0 (fI hd wt us mj k) with q | q
  · exact q
  · by_cases c : fI hd wt us mj k = 0
    · omega
    · have := Int.mul_neg_of_pos_of_neg h0 (show fI hd wt us mj k < 0 by omega)
      omega
theorem mD_nn {hd wt : Nat → Int32} {us : Int32} {mj : Nat → Nat} {k : Nat} (h : RG hd) (hw : RW wt) (hmj : ∀ j : Nat, mj j < 4) : 0 ≤ mD hd wt us mj k := by
  rw [Int64.le_iff_toInt_le, (Bd_D h hw hmj).toInt (by decide)]
  exact dI_nn hw
theorem mF_nn {hd wt : Nat → Int32} {us : Int32} {mj : Nat → Nat} {k : Nat} (h : RG hd) (hw : RW wt) (hmj : ∀ j : Nat, mj j < 4) (h0 : 0 < mD hd wt us mj k) : 0 ≤ mF hd wt us mj k := by
  rw [Int64.lt_iff_toInt_lt, (Bd_D h hw hmj).toInt (by decide)] at h0
  rw [Int64.le_iff_toInt_le, (Bd_F h hw hmj).toInt (by decide)]
  exact fI_nn hw h0
