theorem det3_D3 {m : Nat → Int64} : det3 m = D3 m := by
  unfold det3 D3 cof
  simp only [ts]
  show m 0 * (m 4 * m 8 - m 5 * m 7) + (m 1 * (m 5 * m 6 - m 3 * m 8) + (m 2 * (m 3 * m 7 - m 4 * m 6) + 0)) = _
  grind
theorem PT_0 {m s : Nat → Int64} : PT m s 0 = (m 4 * m 8 - m 5 * m 7) * s 0 + (m 5 * m 6 - m 3 * m 8) * s 1 + (m 3 * m 7 - m 4 * m 6) * s 2 := by
  unfold PT cof
  simp only [ts]
  show (m 4 * m 8 - m 5 * m 7) * s 0 + ((m 5 * m 6 - m 3 * m 8) * s 1 + ((m 3 * m 7 - m 4 * m 6) * s 2 + 0)) = _
  grind
theorem PT_1 {m s : Nat → Int64} : PT m s 1 = (m 7 * m 2 - m 8 * m 1) * s 0 + (m 8 * m 0 - m 6 * m 2) * s 1 + (m 6 * m 1 - m 7 * m 0) * s 2 := by
  unfold PT cof
  simp only [ts]
  show (m 7 * m 2 - m 8 * m 1) * s 0 + ((m 8 * m 0 - m 6 * m 2) * s 1 + ((m 6 * m 1 - m 7 * m 0) * s 2 + 0)) = _
  grind
theorem PT_2 {m s : Nat → Int64} : PT m s 2 = (m 1 * m 5 - m 2 * m 4) * s 0 + (m 2 * m 3 - m 0 * m 5) * s 1 + (m 0 * m 4 - m 1 * m 3) * s 2 := by
  unfold PT cof
  simp only [ts]
  show (m 1 * m 5 - m 2 * m 4) * s 0 + ((m 2 * m 3 - m 0 * m 5) * s 1 + ((m 0 * m 4 - m 1 * m 3) * s 2 + 0)) = _
  grind
/-- the parts that X finds, by source -/
def XP (st : Int32) (be : Nat) (g : Nat → Nat → Int64) (t : Nat) : Int64 := if t = be then bX st be g - pX st be g 0 - pX st be g 1 - pX st be g 2 else pX st be g (if t < be then t else t - 1)
theorem set_1 {hd wt : Nat → Int32} {us : Int32} {mj : Nat → Nat} (h0 : mj 0 = 0) : bX (nI 1) 0 (GB hd wt us 0) = mD hd wt us mj 1 ∧ fX (nI 1) 0 (GB hd wt us 0) = mF hd wt us mj 1 ∧ ∀ sh : Nat → Int64, (mS hd wt us mj 1 sh 0 = XP (nI 1) 0 (GB hd wt us 0) 0) ∧ (mS hd wt us mj 1 sh 1 = sh 1 ∧ XP (nI 1) 0 (GB hd wt us 0) 1 = 0) ∧ (mS hd wt us mj 1 sh 2 = sh 2 ∧ XP (nI 1) 0 (GB hd wt us 0) 2 = 0) ∧ (mS hd wt us mj 1 sh 3 = sh 3 ∧ XP (nI 1) 0 (GB hd wt us 0) 3 = 0) := by
  have x0 : MXf (nI 1) 0 (GB hd wt us 0) 0 = 1 := rfl
  have x1 : MXf (nI 1) 0 (GB hd wt us 0) 1 = 0 := rfl
  have x2 : MXf (nI 1) 0 (GB hd wt us 0) 2 = 0 := rfl
  have x3 : MXf (nI 1) 0 (GB hd wt us 0) 3 = 0 := rfl
  have x4 : MXf (nI 1) 0 (GB hd wt us 0) 4 = 1 := rfl
  have x5 : MXf (nI 1) 0 (GB hd wt us 0) 5 = 0 := rfl
  have x6 : MXf (nI 1) 0 (GB hd wt us 0) 6 = 0 := rfl
  have x7 : MXf (nI 1) 0 (GB hd wt us 0) 7 = 0 := rfl
  have x8 : MXf (nI 1) 0 (GB hd wt us 0) 8 = 1 := rfl
  have y0 : SXf (nI 1) 0 (GB hd wt us 0) 0 = 0 := rfl
  have w0 : SE (nI 1) 0 (GB hd wt us 0) 0 = 0 := rfl
  have y1 : SXf (nI 1) 0 (GB hd wt us 0) 1 = 0 := rfl
  have w1 : SE (nI 1) 0 (GB hd wt us 0) 1 = 0 := rfl
  have y2 : SXf (nI 1) 0 (GB hd wt us 0) 2 = 0 := rfl
  have w2 : SE (nI 1) 0 (GB hd wt us 0) 2 = 0 := rfl
  have a0 : PAf hd wt us mj 1 0 = 1 := rfl
  have a1 : PAf hd wt us mj 1 1 = 0 := rfl
  have a2 : PAf hd wt us mj 1 2 = 0 := rfl
  have a3 : PAf hd wt us mj 1 3 = 0 := rfl
  have a4 : PAf hd wt us mj 1 4 = 1 := rfl
  have a5 : PAf hd wt us mj 1 5 = 0 := rfl
  have a6 : PAf hd wt us mj 1 6 = 0 := rfl
  have a7 : PAf hd wt us mj 1 7 = 0 := rfl
  have a8 : PAf hd wt us mj 1 8 = 1 := rfl
  have c0 : GOf hd wt us mj 1 0 = 0 := rfl
  have c1 : GOf hd wt us mj 1 1 = 0 := rfl
  have c2 : GOf hd wt us mj 1 2 = 0 := rfl
  have eD : mD hd wt us mj 1 = D3 (PAf hd wt us mj 1) := rfl
  unfold D3 at eD
  rw [a0, a1, a2, a3, a4, a5, a6, a7, a8] at eD
  have eP0 : mP hd wt us mj 1 0 = D3 (RC (PAf hd wt us mj 1) (GOf hd wt us mj 1) 0) := rfl
  have eQ0 : D3 (RC (PAf hd wt us mj 1) (GOf hd wt us mj 1) 0) = (GOf hd wt us mj 1 0) * ((PAf hd wt us mj 1 4) * (PAf hd wt us mj 1 8) - (PAf hd wt us mj 1 5) * (PAf hd wt us mj 1 7)) + (PAf hd wt us mj 1 1) * ((PAf hd wt us mj 1 5) * (GOf hd wt us mj 1 2) - (GOf hd wt us mj 1 1) * (PAf hd wt us mj 1 8)) + (PAf hd wt us mj 1 2) * ((GOf hd wt us mj 1 1) * (PAf hd wt us mj 1 7) - (PAf hd wt us mj 1 4) * (GOf hd wt us mj 1 2)) := rfl
  rw [eQ0, a1, a2, a4, a5, a7, a8, c0, c1, c2] at eP0
  have eP1 : mP hd wt us mj 1 1 = D3 (RC (PAf hd wt us mj 1) (GOf hd wt us mj 1) 1) := rfl
  have eQ1 : D3 (RC (PAf hd wt us mj 1) (GOf hd wt us mj 1) 1) = (PAf hd wt us mj 1 0) * ((GOf hd wt us mj 1 1) * (PAf hd wt us mj 1 8) - (PAf hd wt us mj 1 5) * (GOf hd wt us mj 1 2)) + (GOf hd wt us mj 1 0) * ((PAf hd wt us mj 1 5) * (PAf hd wt us mj 1 6) - (PAf hd wt us mj 1 3) * (PAf hd wt us mj 1 8)) + (PAf hd wt us mj 1 2) * ((PAf hd wt us mj 1 3) * (GOf hd wt us mj 1 2) - (GOf hd wt us mj 1 1) * (PAf hd wt us mj 1 6)) := rfl
  rw [eQ1, a0, a2, a3, a5, a6, a8, c0, c1, c2] at eP1
  have eP2 : mP hd wt us mj 1 2 = D3 (RC (PAf hd wt us mj 1) (GOf hd wt us mj 1) 2) := rfl
  have eQ2 : D3 (RC (PAf hd wt us mj 1) (GOf hd wt us mj 1) 2) = (PAf hd wt us mj 1 0) * ((PAf hd wt us mj 1 4) * (GOf hd wt us mj 1 2) - (GOf hd wt us mj 1 1) * (PAf hd wt us mj 1 7)) + (PAf hd wt us mj 1 1) * ((GOf hd wt us mj 1 1) * (PAf hd wt us mj 1 6) - (PAf hd wt us mj 1 3) * (GOf hd wt us mj 1 2)) + (GOf hd wt us mj 1 0) * ((PAf hd wt us mj 1 3) * (PAf hd wt us mj 1 7) - (PAf hd wt us mj 1 4) * (PAf hd wt us mj 1 6)) := rfl
  rw [eQ2, a0, a1, a3, a4, a6, a7, c0, c1, c2] at eP2
  have eB : bX (nI 1) 0 (GB hd wt us 0) = D3 (MXf (nI 1) 0 (GB hd wt us 0)) := det3_D3
  unfold D3 at eB
  rw [x0, x1, x2, x3, x4, x5, x6, x7, x8] at eB
  have eX0 : pX (nI 1) 0 (GB hd wt us 0) 0 = _ := PT_0
  rw [x3, x4, x5, x6, x7, x8, y0, y1, y2] at eX0
  have eX1 : pX (nI 1) 0 (GB hd wt us 0) 1 = _ := PT_1
  rw [x0, x1, x2, x6, x7, x8, y0, y1, y2] at eX1
  have eX2 : pX (nI 1) 0 (GB hd wt us 0) 2 = _ := PT_2
  rw [x0, x1, x2, x3, x4, x5, y0, y1, y2] at eX2
  have kB : bX (nI 1) 0 (GB hd wt us 0) = mD hd wt us mj 1 := by rw [eB, eD] <;> grind
  have kX0 : pX (nI 1) 0 (GB hd wt us 0) 0 = 0 := by rw [eX0]; grind
  have kX1 : pX (nI 1) 0 (GB hd wt us 0) 1 = 0 := by rw [eX1]; grind
  have kX2 : pX (nI 1) 0 (GB hd wt us 0) 2 = 0 := by rw [eX2]; grind
  have kF : fX (nI 1) 0 (GB hd wt us 0) = mF hd wt us mj 1 := by
    unfold fX mF
    rw [kB, kX0, kX1, kX2, w0, w1, w2, c0, c1, c2, h0]
    grind
  refine ⟨kB, kF, fun sh => ?_⟩
  have eS : mS hd wt us mj 1 sh = vp_updL sh (mj 0) (mD hd wt us mj 1) := rfl
  rw [eS, h0]
  have v0 : XP (nI 1) 0 (GB hd wt us 0) 0 = bX (nI 1) 0 (GB hd wt us 0) - pX (nI 1) 0 (GB hd wt us 0) 0 - pX (nI 1) 0 (GB hd wt us 0) 1 - pX (nI 1) 0 (GB hd wt us 0) 2 := rfl
  have v1 : XP (nI 1) 0 (GB hd wt us 0) 1 = pX (nI 1) 0 (GB hd wt us 0) 0 := rfl
  have v2 : XP (nI 1) 0 (GB hd wt us 0) 2 = pX (nI 1) 0 (GB hd wt us 0) 1 := rfl
  have v3 : XP (nI 1) 0 (GB hd wt us 0) 3 = pX (nI 1) 0 (GB hd wt us 0) 2 := rfl
  rw [v0, v1, v2, v3, kB, kX0, kX1, kX2]
  refine ⟨?_, ⟨rfl, rfl⟩, ⟨rfl, rfl⟩, ⟨rfl, rfl⟩⟩
  refine (upL_at (f := sh) (k := 0)).trans ?_
  grind
theorem set_2 {hd wt : Nat → Int32} {us : Int32} {mj : Nat → Nat} (h0 : mj 0 = 1) : bX (nI 2) 1 (GB hd wt us 1) = mD hd wt us mj 1 ∧ fX (nI 2) 1 (GB hd wt us 1) = mF hd wt us mj 1 ∧ ∀ sh : Nat → Int64, (mS hd wt us mj 1 sh 0 = sh 0 ∧ XP (nI 2) 1 (GB hd wt us 1) 0 = 0) ∧ (mS hd wt us mj 1 sh 1 = XP (nI 2) 1 (GB hd wt us 1) 1) ∧ (mS hd wt us mj 1 sh 2 = sh 2 ∧ XP (nI 2) 1 (GB hd wt us 1) 2 = 0) ∧ (mS hd wt us mj 1 sh 3 = sh 3 ∧ XP (nI 2) 1 (GB hd wt us 1) 3 = 0) := by
  have x0 : MXf (nI 2) 1 (GB hd wt us 1) 0 = 1 := rfl
  have x1 : MXf (nI 2) 1 (GB hd wt us 1) 1 = 0 := rfl
  have x2 : MXf (nI 2) 1 (GB hd wt us 1) 2 = 0 := rfl
  have x3 : MXf (nI 2) 1 (GB hd wt us 1) 3 = 0 := rfl
  have x4 : MXf (nI 2) 1 (GB hd wt us 1) 4 = 1 := rfl
  have x5 : MXf (nI 2) 1 (GB hd wt us 1) 5 = 0 := rfl
  have x6 : MXf (nI 2) 1 (GB hd wt us 1) 6 = 0 := rfl
  have x7 : MXf (nI 2) 1 (GB hd wt us 1) 7 = 0 := rfl
  have x8 : MXf (nI 2) 1 (GB hd wt us 1) 8 = 1 := rfl
  have y0 : SXf (nI 2) 1 (GB hd wt us 1) 0 = 0 := rfl
  have w0 : SE (nI 2) 1 (GB hd wt us 1) 0 = 0 := rfl
  have y1 : SXf (nI 2) 1 (GB hd wt us 1) 1 = 0 := rfl
  have w1 : SE (nI 2) 1 (GB hd wt us 1) 1 = 0 := rfl
  have y2 : SXf (nI 2) 1 (GB hd wt us 1) 2 = 0 := rfl
  have w2 : SE (nI 2) 1 (GB hd wt us 1) 2 = 0 := rfl
  have a0 : PAf hd wt us mj 1 0 = 1 := rfl
  have a1 : PAf hd wt us mj 1 1 = 0 := rfl
  have a2 : PAf hd wt us mj 1 2 = 0 := rfl
  have a3 : PAf hd wt us mj 1 3 = 0 := rfl
  have a4 : PAf hd wt us mj 1 4 = 1 := rfl
  have a5 : PAf hd wt us mj 1 5 = 0 := rfl
  have a6 : PAf hd wt us mj 1 6 = 0 := rfl
  have a7 : PAf hd wt us mj 1 7 = 0 := rfl
  have a8 : PAf hd wt us mj 1 8 = 1 := rfl
  have c0 : GOf hd wt us mj 1 0 = 0 := rfl
  have c1 : GOf hd wt us mj 1 1 = 0 := rfl
  have c2 : GOf hd wt us mj 1 2 = 0 := rfl
  have eD : mD hd wt us mj 1 = D3 (PAf hd wt us mj 1) := rfl
  unfold D3 at eD
  rw [a0, a1, a2, a3, a4, a5, a6, a7, a8] at eD
  have eP0 : mP hd wt us mj 1 0 = D3 (RC (PAf hd wt us mj 1) (GOf hd wt us mj 1) 0) := rfl
  have eQ0 : D3 (RC (PAf hd wt us mj 1) (GOf hd wt us mj 1) 0) = (GOf hd wt us mj 1 0) * ((PAf hd wt us mj 1 4) * (PAf hd wt us mj 1 8) - (PAf hd wt us mj 1 5) * (PAf hd wt us mj 1 7)) + (PAf hd wt us mj 1 1) * ((PAf hd wt us mj 1 5) * (GOf hd wt us mj 1 2) - (GOf hd wt us mj 1 1) * (PAf hd wt us mj 1 8)) + (PAf hd wt us mj 1 2) * ((GOf hd wt us mj 1 1) * (PAf hd wt us mj 1 7) - (PAf hd wt us mj 1 4) * (GOf hd wt us mj 1 2)) := rfl
  rw [eQ0, a1, a2, a4, a5, a7, a8, c0, c1, c2] at eP0
  have eP1 : mP hd wt us mj 1 1 = D3 (RC (PAf hd wt us mj 1) (GOf hd wt us mj 1) 1) := rfl
  have eQ1 : D3 (RC (PAf hd wt us mj 1) (GOf hd wt us mj 1) 1) = (PAf hd wt us mj 1 0) * ((GOf hd wt us mj 1 1) * (PAf hd wt us mj 1 8) - (PAf hd wt us mj 1 5) * (GOf hd wt us mj 1 2)) + (GOf hd wt us mj 1 0) * ((PAf hd wt us mj 1 5) * (PAf hd wt us mj 1 6) - (PAf hd wt us mj 1 3) * (PAf hd wt us mj 1 8)) + (PAf hd wt us mj 1 2) * ((PAf hd wt us mj 1 3) * (GOf hd wt us mj 1 2) - (GOf hd wt us mj 1 1) * (PAf hd wt us mj 1 6)) := rfl
  rw [eQ1, a0, a2, a3, a5, a6, a8, c0, c1, c2] at eP1
  have eP2 : mP hd wt us mj 1 2 = D3 (RC (PAf hd wt us mj 1) (GOf hd wt us mj 1) 2) := rfl
  have eQ2 : D3 (RC (PAf hd wt us mj 1) (GOf hd wt us mj 1) 2) = (PAf hd wt us mj 1 0) * ((PAf hd wt us mj 1 4) * (GOf hd wt us mj 1 2) - (GOf hd wt us mj 1 1) * (PAf hd wt us mj 1 7)) + (PAf hd wt us mj 1 1) * ((GOf hd wt us mj 1 1) * (PAf hd wt us mj 1 6) - (PAf hd wt us mj 1 3) * (GOf hd wt us mj 1 2)) + (GOf hd wt us mj 1 0) * ((PAf hd wt us mj 1 3) * (PAf hd wt us mj 1 7) - (PAf hd wt us mj 1 4) * (PAf hd wt us mj 1 6)) := rfl
  rw [eQ2, a0, a1, a3, a4, a6, a7, c0, c1, c2] at eP2
  have eB : bX (nI 2) 1 (GB hd wt us 1) = D3 (MXf (nI 2) 1 (GB hd wt us 1)) := det3_D3
  unfold D3 at eB
  rw [x0, x1, x2, x3, x4, x5, x6, x7, x8] at eB
  have eX0 : pX (nI 2) 1 (GB hd wt us 1) 0 = _ := PT_0
  rw [x3, x4, x5, x6, x7, x8, y0, y1, y2] at eX0
  have eX1 : pX (nI 2) 1 (GB hd wt us 1) 1 = _ := PT_1
  rw [x0, x1, x2, x6, x7, x8, y0, y1, y2] at eX1
  have eX2 : pX (nI 2) 1 (GB hd wt us 1) 2 = _ := PT_2
  rw [x0, x1, x2, x3, x4, x5, y0, y1, y2] at eX2
  have kB : bX (nI 2) 1 (GB hd wt us 1) = mD hd wt us mj 1 := by rw [eB, eD] <;> grind
  have kX0 : pX (nI 2) 1 (GB hd wt us 1) 0 = 0 := by rw [eX0]; grind
  have kX1 : pX (nI 2) 1 (GB hd wt us 1) 1 = 0 := by rw [eX1]; grind
  have kX2 : pX (nI 2) 1 (GB hd wt us 1) 2 = 0 := by rw [eX2]; grind
  have kF : fX (nI 2) 1 (GB hd wt us 1) = mF hd wt us mj 1 := by
    unfold fX mF
    rw [kB, kX0, kX1, kX2, w0, w1, w2, c0, c1, c2, h0]
    grind
  refine ⟨kB, kF, fun sh => ?_⟩
  have eS : mS hd wt us mj 1 sh = vp_updL sh (mj 0) (mD hd wt us mj 1) := rfl
  rw [eS, h0]
  have v0 : XP (nI 2) 1 (GB hd wt us 1) 0 = pX (nI 2) 1 (GB hd wt us 1) 0 := rfl
  have v1 : XP (nI 2) 1 (GB hd wt us 1) 1 = bX (nI 2) 1 (GB hd wt us 1) - pX (nI 2) 1 (GB hd wt us 1) 0 - pX (nI 2) 1 (GB hd wt us 1) 1 - pX (nI 2) 1 (GB hd wt us 1) 2 := rfl
  have v2 : XP (nI 2) 1 (GB hd wt us 1) 2 = pX (nI 2) 1 (GB hd wt us 1) 1 := rfl
  have v3 : XP (nI 2) 1 (GB hd wt us 1) 3 = pX (nI 2) 1 (GB hd wt us 1) 2 := rfl
  rw [v0, v1, v2, v3, kB, kX0, kX1, kX2]
  refine ⟨⟨rfl, rfl⟩, ?_, ⟨rfl, rfl⟩, ⟨rfl, rfl⟩⟩
  refine (upL_at (f := sh) (k := 1)).trans ?_
  grind
theorem set_3 {hd wt : Nat → Int32} {us : Int32} {mj : Nat → Nat} (h0 : mj 0 = 0) (h1 : mj 1 = 1) : bX (nI 3) 0 (GB hd wt us 0) = mD hd wt us mj 2 ∧ fX (nI 3) 0 (GB hd wt us 0) = mF hd wt us mj 2 ∧ ∀ sh : Nat → Int64, (mS hd wt us mj 2 sh 0 = XP (nI 3) 0 (GB hd wt us 0) 0) ∧ (mS hd wt us mj 2 sh 1 = XP (nI 3) 0 (GB hd wt us 0) 1) ∧ (mS hd wt us mj 2 sh 2 = sh 2 ∧ XP (nI 3) 0 (GB hd wt us 0) 2 = 0) ∧ (mS hd wt us mj 2 sh 3 = sh 3 ∧ XP (nI 3) 0 (GB hd wt us 0) 3 = 0) := by
  have x0 : MXf (nI 3) 0 (GB hd wt us 0) 0 = GB hd wt us 0 1 1 := rfl
  have x1 : MXf (nI 3) 0 (GB hd wt us 0) 1 = 0 := rfl
  have x2 : MXf (nI 3) 0 (GB hd wt us 0) 2 = 0 := rfl
  have x3 : MXf (nI 3) 0 (GB hd wt us 0) 3 = 0 := rfl
  have x4 : MXf (nI 3) 0 (GB hd wt us 0) 4 = 1 := rfl
  have x5 : MXf (nI 3) 0 (GB hd wt us 0) 5 = 0 := rfl
  have x6 : MXf (nI 3) 0 (GB hd wt us 0) 6 = 0 := rfl
  have x7 : MXf (nI 3) 0 (GB hd wt us 0) 7 = 0 := rfl
  have x8 : MXf (nI 3) 0 (GB hd wt us 0) 8 = 1 := rfl
  have y0 : SXf (nI 3) 0 (GB hd wt us 0) 0 = GB hd wt us 0 1 4 := rfl
  have w0 : SE (nI 3) 0 (GB hd wt us 0) 0 = GB hd wt us 0 1 4 := rfl
  have y1 : SXf (nI 3) 0 (GB hd wt us 0) 1 = 0 := rfl
  have w1 : SE (nI 3) 0 (GB hd wt us 0) 1 = 0 := rfl
  have y2 : SXf (nI 3) 0 (GB hd wt us 0) 2 = 0 := rfl
  have w2 : SE (nI 3) 0 (GB hd wt us 0) 2 = 0 := rfl
  have a0 : PAf hd wt us mj 2 0 = GB hd wt us (mj 0) (mj 1) (mj 1) := rfl
  rw [h0, h1] at a0
  have a1 : PAf hd wt us mj 2 1 = 0 := rfl
  have a2 : PAf hd wt us mj 2 2 = 0 := rfl
  have a3 : PAf hd wt us mj 2 3 = 0 := rfl
  have a4 : PAf hd wt us mj 2 4 = 1 := rfl
  have a5 : PAf hd wt us mj 2 5 = 0 := rfl
  have a6 : PAf hd wt us mj 2 6 = 0 := rfl
  have a7 : PAf hd wt us mj 2 7 = 0 := rfl
  have a8 : PAf hd wt us mj 2 8 = 1 := rfl
  have c0 : GOf hd wt us mj 2 0 = GB hd wt us (mj 0) (mj 1) 4 := rfl
  rw [h0, h1] at c0
  have c1 : GOf hd wt us mj 2 1 = 0 := rfl
  have c2 : GOf hd wt us mj 2 2 = 0 := rfl
  have eD : mD hd wt us mj 2 = D3 (PAf hd wt us mj 2) := rfl
  unfold D3 at eD
  rw [a0, a1, a2, a3, a4, a5, a6, a7, a8] at eD
  have eP0 : mP hd wt us mj 2 0 = D3 (RC (PAf hd wt us mj 2) (GOf hd wt us mj 2) 0) := rfl
  have eQ0 : D3 (RC (PAf hd wt us mj 2) (GOf hd wt us mj 2) 0) = (GOf hd wt us mj 2 0) * ((PAf hd wt us mj 2 4) * (PAf hd wt us mj 2 8) - (PAf hd wt us mj 2 5) * (PAf hd wt us mj 2 7)) + (PAf hd wt us mj 2 1) * ((PAf hd wt us mj 2 5) * (GOf hd wt us mj 2 2) - (GOf hd wt us mj 2 1) * (PAf hd wt us mj 2 8)) + (PAf hd wt us mj 2 2) * ((GOf hd wt us mj 2 1) * (PAf hd wt us mj 2 7) - (PAf hd wt us mj 2 4) * (GOf hd wt us mj 2 2)) := rfl
  rw [eQ0, a1, a2, a4, a5, a7, a8, c0, c1, c2] at eP0
  have eP1 : mP hd wt us mj 2 1 = D3 (RC (PAf hd wt us mj 2) (GOf hd wt us mj 2) 1) := rfl
  have eQ1 : D3 (RC (PAf hd wt us mj 2) (GOf hd wt us mj 2) 1) = (PAf hd wt us mj 2 0) * ((GOf hd wt us mj 2 1) * (PAf hd wt us mj 2 8) - (PAf hd wt us mj 2 5) * (GOf hd wt us mj 2 2)) + (GOf hd wt us mj 2 0) * ((PAf hd wt us mj 2 5) * (PAf hd wt us mj 2 6) - (PAf hd wt us mj 2 3) * (PAf hd wt us mj 2 8)) + (PAf hd wt us mj 2 2) * ((PAf hd wt us mj 2 3) * (GOf hd wt us mj 2 2) - (GOf hd wt us mj 2 1) * (PAf hd wt us mj 2 6)) := rfl
  rw [eQ1, a0, a2, a3, a5, a6, a8, c0, c1, c2] at eP1
  have eP2 : mP hd wt us mj 2 2 = D3 (RC (PAf hd wt us mj 2) (GOf hd wt us mj 2) 2) := rfl
  have eQ2 : D3 (RC (PAf hd wt us mj 2) (GOf hd wt us mj 2) 2) = (PAf hd wt us mj 2 0) * ((PAf hd wt us mj 2 4) * (GOf hd wt us mj 2 2) - (GOf hd wt us mj 2 1) * (PAf hd wt us mj 2 7)) + (PAf hd wt us mj 2 1) * ((GOf hd wt us mj 2 1) * (PAf hd wt us mj 2 6) - (PAf hd wt us mj 2 3) * (GOf hd wt us mj 2 2)) + (GOf hd wt us mj 2 0) * ((PAf hd wt us mj 2 3) * (PAf hd wt us mj 2 7) - (PAf hd wt us mj 2 4) * (PAf hd wt us mj 2 6)) := rfl
  rw [eQ2, a0, a1, a3, a4, a6, a7, c0, c1, c2] at eP2
  have eB : bX (nI 3) 0 (GB hd wt us 0) = D3 (MXf (nI 3) 0 (GB hd wt us 0)) := det3_D3
  unfold D3 at eB
  rw [x0, x1, x2, x3, x4, x5, x6, x7, x8] at eB
  have eX0 : pX (nI 3) 0 (GB hd wt us 0) 0 = _ := PT_0
  rw [x3, x4, x5, x6, x7, x8, y0, y1, y2] at eX0
  have eX1 : pX (nI 3) 0 (GB hd wt us 0) 1 = _ := PT_1
  rw [x0, x1, x2, x6, x7, x8, y0, y1, y2] at eX1
  have eX2 : pX (nI 3) 0 (GB hd wt us 0) 2 = _ := PT_2
  rw [x0, x1, x2, x3, x4, x5, y0, y1, y2] at eX2
  have kB : bX (nI 3) 0 (GB hd wt us 0) = mD hd wt us mj 2 := by rw [eB, eD] <;> grind
  have kX0 : pX (nI 3) 0 (GB hd wt us 0) 0 = mP hd wt us mj 2 0 := by rw [eX0, eP0]; grind
  have kX1 : pX (nI 3) 0 (GB hd wt us 0) 1 = 0 := by rw [eX1]; grind
  have kX2 : pX (nI 3) 0 (GB hd wt us 0) 2 = 0 := by rw [eX2]; grind
  have kF : fX (nI 3) 0 (GB hd wt us 0) = mF hd wt us mj 2 := by
    unfold fX mF
    rw [kB, kX0, kX1, kX2, w0, w1, w2, c0, c1, c2, h0]
    grind
  refine ⟨kB, kF, fun sh => ?_⟩
  have eS : mS hd wt us mj 2 sh = vp_updL (vp_updL sh (mj 1) (mP hd wt us mj 2 0)) (mj 0) (mD hd wt us mj 2 - mP hd wt us mj 2 0) := rfl
  rw [eS, h0, h1]
  have v0 : XP (nI 3) 0 (GB hd wt us 0) 0 = bX (nI 3) 0 (GB hd wt us 0) - pX (nI 3) 0 (GB hd wt us 0) 0 - pX (nI 3) 0 (GB hd wt us 0) 1 - pX (nI 3) 0 (GB hd wt us 0) 2 := rfl
  have v1 : XP (nI 3) 0 (GB hd wt us 0) 1 = pX (nI 3) 0 (GB hd wt us 0) 0 := rfl
  have v2 : XP (nI 3) 0 (GB hd wt us 0) 2 = pX (nI 3) 0 (GB hd wt us 0) 1 := rfl
  have v3 : XP (nI 3) 0 (GB hd wt us 0) 3 = pX (nI 3) 0 (GB hd wt us 0) 2 := rfl
  rw [v0, v1, v2, v3, kB, kX0, kX1, kX2]
  refine ⟨?_, rfl, ⟨rfl, rfl⟩, ⟨rfl, rfl⟩⟩
  refine (upL_at (f := (vp_updL sh 1 (mP hd wt us mj 2 0))) (k := 0)).trans ?_
  grind
theorem set_4 {hd wt : Nat → Int32} {us : Int32} {mj : Nat → Nat} (h0 : mj 0 = 2) : bX (nI 4) 2 (GB hd wt us 2) = mD hd wt us mj 1 ∧ fX (nI 4) 2 (GB hd wt us 2) = mF hd wt us mj 1 ∧ ∀ sh : Nat → Int64, (mS hd wt us mj 1 sh 0 = sh 0 ∧ XP (nI 4) 2 (GB hd wt us 2) 0 = 0) ∧ (mS hd wt us mj 1 sh 1 = sh 1 ∧ XP (nI 4) 2 (GB hd wt us 2) 1 = 0) ∧ (mS hd wt us mj 1 sh 2 = XP (nI 4) 2 (GB hd wt us 2) 2) ∧ (mS hd wt us mj 1 sh 3 = sh 3 ∧ XP (nI 4) 2 (GB hd wt us 2) 3 = 0) := by
  have x0 : MXf (nI 4) 2 (GB hd wt us 2) 0 = 1 := rfl
  have x1 : MXf (nI 4) 2 (GB hd wt us 2) 1 = 0 := rfl
  have x2 : MXf (nI 4) 2 (GB hd wt us 2) 2 = 0 := rfl
  have x3 : MXf (nI 4) 2 (GB hd wt us 2) 3 = 0 := rfl
  have x4 : MXf (nI 4) 2 (GB hd wt us 2) 4 = 1 := rfl
  have x5 : MXf (nI 4) 2 (GB hd wt us 2) 5 = 0 := rfl
  have x6 : MXf (nI 4) 2 (GB hd wt us 2) 6 = 0 := rfl
  have x7 : MXf (nI 4) 2 (GB hd wt us 2) 7 = 0 := rfl
  have x8 : MXf (nI 4) 2 (GB hd wt us 2) 8 = 1 := rfl
  have y0 : SXf (nI 4) 2 (GB hd wt us 2) 0 = 0 := rfl
  have w0 : SE (nI 4) 2 (GB hd wt us 2) 0 = 0 := rfl
  have y1 : SXf (nI 4) 2 (GB hd wt us 2) 1 = 0 := rfl
  have w1 : SE (nI 4) 2 (GB hd wt us 2) 1 = 0 := rfl
  have y2 : SXf (nI 4) 2 (GB hd wt us 2) 2 = 0 := rfl
  have w2 : SE (nI 4) 2 (GB hd wt us 2) 2 = 0 := rfl
  have a0 : PAf hd wt us mj 1 0 = 1 := rfl
  have a1 : PAf hd wt us mj 1 1 = 0 := rfl
  have a2 : PAf hd wt us mj 1 2 = 0 := rfl
  have a3 : PAf hd wt us mj 1 3 = 0 := rfl
  have a4 : PAf hd wt us mj 1 4 = 1 := rfl
  have a5 : PAf hd wt us mj 1 5 = 0 := rfl
  have a6 : PAf hd wt us mj 1 6 = 0 := rfl
  have a7 : PAf hd wt us mj 1 7 = 0 := rfl
  have a8 : PAf hd wt us mj 1 8 = 1 := rfl
  have c0 : GOf hd wt us mj 1 0 = 0 := rfl
  have c1 : GOf hd wt us mj 1 1 = 0 := rfl
  have c2 : GOf hd wt us mj 1 2 = 0 := rfl
  have eD : mD hd wt us mj 1 = D3 (PAf hd wt us mj 1) := rfl
  unfold D3 at eD
  rw [a0, a1, a2, a3, a4, a5, a6, a7, a8] at eD
  have eP0 : mP hd wt us mj 1 0 = D3 (RC (PAf hd wt us mj 1) (GOf hd wt us mj 1) 0) := rfl
  have eQ0 : D3 (RC (PAf hd wt us mj 1) (GOf hd wt us mj 1) 0) = (GOf hd wt us mj 1 0) * ((PAf hd wt us mj 1 4) * (PAf hd wt us mj 1 8) - (PAf hd wt us mj 1 5) * (PAf hd wt us mj 1 7)) + (PAf hd wt us mj 1 1) * ((PAf hd wt us mj 1 5) * (GOf hd wt us mj 1 2) - (GOf hd wt us mj 1 1) * (PAf hd wt us mj 1 8)) + (PAf hd wt us mj 1 2) * ((GOf hd wt us mj 1 1) * (PAf hd wt us mj 1 7) - (PAf hd wt us mj 1 4) * (GOf hd wt us mj 1 2)) := rfl
  rw [eQ0, a1, a2, a4, a5, a7, a8, c0, c1, c2] at eP0
  have eP1 : mP hd wt us mj 1 1 = D3 (RC (PAf hd wt us mj 1) (GOf hd wt us mj 1) 1) := rfl
  have eQ1 : D3 (RC (PAf hd wt us mj 1) (GOf hd wt us mj 1) 1) = (PAf hd wt us mj 1 0) * ((GOf hd wt us mj 1 1) * (PAf hd wt us mj 1 8) - (PAf hd wt us mj 1 5) * (GOf hd wt us mj 1 2)) + (GOf hd wt us mj 1 0) * ((PAf hd wt us mj 1 5) * (PAf hd wt us mj 1 6) - (PAf hd wt us mj 1 3) * (PAf hd wt us mj 1 8)) + (PAf hd wt us mj 1 2) * ((PAf hd wt us mj 1 3) * (GOf hd wt us mj 1 2) - (GOf hd wt us mj 1 1) * (PAf hd wt us mj 1 6)) := rfl
  rw [eQ1, a0, a2, a3, a5, a6, a8, c0, c1, c2] at eP1
  have eP2 : mP hd wt us mj 1 2 = D3 (RC (PAf hd wt us mj 1) (GOf hd wt us mj 1) 2) := rfl
  have eQ2 : D3 (RC (PAf hd wt us mj 1) (GOf hd wt us mj 1) 2) = (PAf hd wt us mj 1 0) * ((PAf hd wt us mj 1 4) * (GOf hd wt us mj 1 2) - (GOf hd wt us mj 1 1) * (PAf hd wt us mj 1 7)) + (PAf hd wt us mj 1 1) * ((GOf hd wt us mj 1 1) * (PAf hd wt us mj 1 6) - (PAf hd wt us mj 1 3) * (GOf hd wt us mj 1 2)) + (GOf hd wt us mj 1 0) * ((PAf hd wt us mj 1 3) * (PAf hd wt us mj 1 7) - (PAf hd wt us mj 1 4) * (PAf hd wt us mj 1 6)) := rfl
  rw [eQ2, a0, a1, a3, a4, a6, a7, c0, c1, c2] at eP2
  have eB : bX (nI 4) 2 (GB hd wt us 2) = D3 (MXf (nI 4) 2 (GB hd wt us 2)) := det3_D3
  unfold D3 at eB
  rw [x0, x1, x2, x3, x4, x5, x6, x7, x8] at eB
  have eX0 : pX (nI 4) 2 (GB hd wt us 2) 0 = _ := PT_0
  rw [x3, x4, x5, x6, x7, x8, y0, y1, y2] at eX0
  have eX1 : pX (nI 4) 2 (GB hd wt us 2) 1 = _ := PT_1
  rw [x0, x1, x2, x6, x7, x8, y0, y1, y2] at eX1
  have eX2 : pX (nI 4) 2 (GB hd wt us 2) 2 = _ := PT_2
  rw [x0, x1, x2, x3, x4, x5, y0, y1, y2] at eX2
  have kB : bX (nI 4) 2 (GB hd wt us 2) = mD hd wt us mj 1 := by rw [eB, eD] <;> grind
  have kX0 : pX (nI 4) 2 (GB hd wt us 2) 0 = 0 := by rw [eX0]; grind
  have kX1 : pX (nI 4) 2 (GB hd wt us 2) 1 = 0 := by rw [eX1]; grind
  have kX2 : pX (nI 4) 2 (GB hd wt us 2) 2 = 0 := by rw [eX2]; grind
  have kF : fX (nI 4) 2 (GB hd wt us 2) = mF hd wt us mj 1 := by
    unfold fX mF
    rw [kB, kX0, kX1, kX2, w0, w1, w2, c0, c1, c2, h0]
    grind
  refine ⟨kB, kF, fun sh => ?_⟩
  have eS : mS hd wt us mj 1 sh = vp_updL sh (mj 0) (mD hd wt us mj 1) := rfl
  rw [eS, h0]
  have v0 : XP (nI 4) 2 (GB hd wt us 2) 0 = pX (nI 4) 2 (GB hd wt us 2) 0 := rfl
  have v1 : XP (nI 4) 2 (GB hd wt us 2) 1 = pX (nI 4) 2 (GB hd wt us 2) 1 := rfl
  have v2 : XP (nI 4) 2 (GB hd wt us 2) 2 = bX (nI 4) 2 (GB hd wt us 2) - pX (nI 4) 2 (GB hd wt us 2) 0 - pX (nI 4) 2 (GB hd wt us 2) 1 - pX (nI 4) 2 (GB hd wt us 2) 2 := rfl
  have v3 : XP (nI 4) 2 (GB hd wt us 2) 3 = pX (nI 4) 2 (GB hd wt us 2) 2 := rfl
  rw [v0, v1, v2, v3, kB, kX0, kX1, kX2]
  refine ⟨⟨rfl, rfl⟩, ⟨rfl, rfl⟩, ?_, ⟨rfl, rfl⟩⟩
  refine (upL_at (f := sh) (k := 2)).trans ?_
  grind
theorem set_5 {hd wt : Nat → Int32} {us : Int32} {mj : Nat → Nat} (h0 : mj 0 = 0) (h1 : mj 1 = 2) : bX (nI 5) 0 (GB hd wt us 0) = mD hd wt us mj 2 ∧ fX (nI 5) 0 (GB hd wt us 0) = mF hd wt us mj 2 ∧ ∀ sh : Nat → Int64, (mS hd wt us mj 2 sh 0 = XP (nI 5) 0 (GB hd wt us 0) 0) ∧ (mS hd wt us mj 2 sh 1 = sh 1 ∧ XP (nI 5) 0 (GB hd wt us 0) 1 = 0) ∧ (mS hd wt us mj 2 sh 2 = XP (nI 5) 0 (GB hd wt us 0) 2) ∧ (mS hd wt us mj 2 sh 3 = sh 3 ∧ XP (nI 5) 0 (GB hd wt us 0) 3 = 0) := by
  have x0 : MXf (nI 5) 0 (GB hd wt us 0) 0 = 1 := rfl
  have x1 : MXf (nI 5) 0 (GB hd wt us 0) 1 = 0 := rfl
  have x2 : MXf (nI 5) 0 (GB hd wt us 0) 2 = 0 := rfl
  have x3 : MXf (nI 5) 0 (GB hd wt us 0) 3 = 0 := rfl
  have x4 : MXf (nI 5) 0 (GB hd wt us 0) 4 = GB hd wt us 0 2 2 := rfl
  have x5 : MXf (nI 5) 0 (GB hd wt us 0) 5 = 0 := rfl
  have x6 : MXf (nI 5) 0 (GB hd wt us 0) 6 = 0 := rfl
  have x7 : MXf (nI 5) 0 (GB hd wt us 0) 7 = 0 := rfl
  have x8 : MXf (nI 5) 0 (GB hd wt us 0) 8 = 1 := rfl
  have y0 : SXf (nI 5) 0 (GB hd wt us 0) 0 = 0 := rfl
  have w0 : SE (nI 5) 0 (GB hd wt us 0) 0 = 0 := rfl
  have y1 : SXf (nI 5) 0 (GB hd wt us 0) 1 = GB hd wt us 0 2 4 := rfl
  have w1 : SE (nI 5) 0 (GB hd wt us 0) 1 = GB hd wt us 0 2 4 := rfl
  have y2 : SXf (nI 5) 0 (GB hd wt us 0) 2 = 0 := rfl
  have w2 : SE (nI 5) 0 (GB hd wt us 0) 2 = 0 := rfl
  have a0 : PAf hd wt us mj 2 0 = GB hd wt us (mj 0) (mj 1) (mj 1) := rfl
  rw [h0, h1] at a0
  have a1 : PAf hd wt us mj 2 1 = 0 := rfl
  have a2 : PAf hd wt us mj 2 2 = 0 := rfl
  have a3 : PAf hd wt us mj 2 3 = 0 := rfl
  have a4 : PAf hd wt us mj 2 4 = 1 := rfl
  have a5 : PAf hd wt us mj 2 5 = 0 := rfl
  have a6 : PAf hd wt us mj 2 6 = 0 := rfl
  have a7 : PAf hd wt us mj 2 7 = 0 := rfl
  have a8 : PAf hd wt us mj 2 8 = 1 := rfl
  have c0 : GOf hd wt us mj 2 0 = GB hd wt us (mj 0) (mj 1) 4 := rfl
  rw [h0, h1] at c0
  have c1 : GOf hd wt us mj 2 1 = 0 := rfl
  have c2 : GOf hd wt us mj 2 2 = 0 := rfl
  have eD : mD hd wt us mj 2 = D3 (PAf hd wt us mj 2) := rfl
  unfold D3 at eD
  rw [a0, a1, a2, a3, a4, a5, a6, a7, a8] at eD
  have eP0 : mP hd wt us mj 2 0 = D3 (RC (PAf hd wt us mj 2) (GOf hd wt us mj 2) 0) := rfl
  have eQ0 : D3 (RC (PAf hd wt us mj 2) (GOf hd wt us mj 2) 0) = (GOf hd wt us mj 2 0) * ((PAf hd wt us mj 2 4) * (PAf hd wt us mj 2 8) - (PAf hd wt us mj 2 5) * (PAf hd wt us mj 2 7)) + (PAf hd wt us mj 2 1) * ((PAf hd wt us mj 2 5) * (GOf hd wt us mj 2 2) - (GOf hd wt us mj 2 1) * (PAf hd wt us mj 2 8)) + (PAf hd wt us mj 2 2) * ((GOf hd wt us mj 2 1) * (PAf hd wt us mj 2 7) - (PAf hd wt us mj 2 4) * (GOf hd wt us mj 2 2)) := rfl
  rw [eQ0, a1, a2, a4, a5, a7, a8, c0, c1, c2] at eP0
  have eP1 : mP hd wt us mj 2 1 = D3 (RC (PAf hd wt us mj 2) (GOf hd wt us mj 2) 1) := rfl
  have eQ1 : D3 (RC (PAf hd wt us mj 2) (GOf hd wt us mj 2) 1) = (PAf hd wt us mj 2 0) * ((GOf hd wt us mj 2 1) * (PAf hd wt us mj 2 8) - (PAf hd wt us mj 2 5) * (GOf hd wt us mj 2 2)) + (GOf hd wt us mj 2 0) * ((PAf hd wt us mj 2 5) * (PAf hd wt us mj 2 6) - (PAf hd wt us mj 2 3) * (PAf hd wt us mj 2 8)) + (PAf hd wt us mj 2 2) * ((PAf hd wt us mj 2 3) * (GOf hd wt us mj 2 2) - (GOf hd wt us mj 2 1) * (PAf hd wt us mj 2 6)) := rfl
  rw [eQ1, a0, a2, a3, a5, a6, a8, c0, c1, c2] at eP1
  have eP2 : mP hd wt us mj 2 2 = D3 (RC (PAf hd wt us mj 2) (GOf hd wt us mj 2) 2) := rfl
  have eQ2 : D3 (RC (PAf hd wt us mj 2) (GOf hd wt us mj 2) 2) = (PAf hd wt us mj 2 0) * ((PAf hd wt us mj 2 4) * (GOf hd wt us mj 2 2) - (GOf hd wt us mj 2 1) * (PAf hd wt us mj 2 7)) + (PAf hd wt us mj 2 1) * ((GOf hd wt us mj 2 1) * (PAf hd wt us mj 2 6) - (PAf hd wt us mj 2 3) * (GOf hd wt us mj 2 2)) + (GOf hd wt us mj 2 0) * ((PAf hd wt us mj 2 3) * (PAf hd wt us mj 2 7) - (PAf hd wt us mj 2 4) * (PAf hd wt us mj 2 6)) := rfl
  rw [eQ2, a0, a1, a3, a4, a6, a7, c0, c1, c2] at eP2
  have eB : bX (nI 5) 0 (GB hd wt us 0) = D3 (MXf (nI 5) 0 (GB hd wt us 0)) := det3_D3
  unfold D3 at eB
  rw [x0, x1, x2, x3, x4, x5, x6, x7, x8] at eB
  have eX0 : pX (nI 5) 0 (GB hd wt us 0) 0 = _ := PT_0
  rw [x3, x4, x5, x6, x7, x8, y0, y1, y2] at eX0
  have eX1 : pX (nI 5) 0 (GB hd wt us 0) 1 = _ := PT_1
  rw [x0, x1, x2, x6, x7, x8, y0, y1, y2] at eX1
  have eX2 : pX (nI 5) 0 (GB hd wt us 0) 2 = _ := PT_2
  rw [x0, x1, x2, x3, x4, x5, y0, y1, y2] at eX2
  have kB : bX (nI 5) 0 (GB hd wt us 0) = mD hd wt us mj 2 := by rw [eB, eD] <;> grind
  have kX0 : pX (nI 5) 0 (GB hd wt us 0) 0 = 0 := by rw [eX0]; grind
  have kX1 : pX (nI 5) 0 (GB hd wt us 0) 1 = mP hd wt us mj 2 0 := by rw [eX1, eP0]; grind
  have kX2 : pX (nI 5) 0 (GB hd wt us 0) 2 = 0 := by rw [eX2]; grind
  have kF : fX (nI 5) 0 (GB hd wt us 0) = mF hd wt us mj 2 := by
    unfold fX mF
    rw [kB, kX0, kX1, kX2, w0, w1, w2, c0, c1, c2, h0]
    grind
  refine ⟨kB, kF, fun sh => ?_⟩
  have eS : mS hd wt us mj 2 sh = vp_updL (vp_updL sh (mj 1) (mP hd wt us mj 2 0)) (mj 0) (mD hd wt us mj 2 - mP hd wt us mj 2 0) := rfl
  rw [eS, h0, h1]
  have v0 : XP (nI 5) 0 (GB hd wt us 0) 0 = bX (nI 5) 0 (GB hd wt us 0) - pX (nI 5) 0 (GB hd wt us 0) 0 - pX (nI 5) 0 (GB hd wt us 0) 1 - pX (nI 5) 0 (GB hd wt us 0) 2 := rfl
  have v1 : XP (nI 5) 0 (GB hd wt us 0) 1 = pX (nI 5) 0 (GB hd wt us 0) 0 := rfl
  have v2 : XP (nI 5) 0 (GB hd wt us 0) 2 = pX (nI 5) 0 (GB hd wt us 0) 1 := rfl
  have v3 : XP (nI 5) 0 (GB hd wt us 0) 3 = pX (nI 5) 0 (GB hd wt us 0) 2 := rfl
  rw [v0, v1, v2, v3, kB, kX0, kX1, kX2]
  refine ⟨?_, ⟨rfl, rfl⟩, rfl, ⟨rfl, rfl⟩⟩
  refine (upL_at (f := (vp_updL sh 2 (mP hd wt us mj 2 0))) (k := 0)).trans ?_
  grind
theorem set_6 {hd wt : Nat → Int32} {us : Int32} {mj : Nat → Nat} (h0 : mj 0 = 1) (h1 : mj 1 = 2) : bX (nI 6) 1 (GB hd wt us 1) = mD hd wt us mj 2 ∧ fX (nI 6) 1 (GB hd wt us 1) = mF hd wt us mj 2 ∧ ∀ sh : Nat → Int64, (mS hd wt us mj 2 sh 0 = sh 0 ∧ XP (nI 6) 1 (GB hd wt us 1) 0 = 0) ∧ (mS hd wt us mj 2 sh 1 = XP (nI 6) 1 (GB hd wt us 1) 1) ∧ (mS hd wt us mj 2 sh 2 = XP (nI 6) 1 (GB hd wt us 1) 2) ∧ (mS hd wt us mj 2 sh 3 = sh 3 ∧ XP (nI 6) 1 (GB hd wt us 1) 3 = 0) := by
  have x0 : MXf (nI 6) 1 (GB hd wt us 1) 0 = 1 := rfl
  have x1 : MXf (nI 6) 1 (GB hd wt us 1) 1 = 0 := rfl
  have x2 : MXf (nI 6) 1 (GB hd wt us 1) 2 = 0 := rfl
  have x3 : MXf (nI 6) 1 (GB hd wt us 1) 3 = 0 := rfl
  have x4 : MXf (nI 6) 1 (GB hd wt us 1) 4 = GB hd wt us 1 2 2 := rfl
  have x5 : MXf (nI 6) 1 (GB hd wt us 1) 5 = 0 := rfl
  have x6 : MXf (nI 6) 1 (GB hd wt us 1) 6 = 0 := rfl
  have x7 : MXf (nI 6) 1 (GB hd wt us 1) 7 = 0 := rfl
  have x8 : MXf (nI 6) 1 (GB hd wt us 1) 8 = 1 := rfl
  have y0 : SXf (nI 6) 1 (GB hd wt us 1) 0 = 0 := rfl
  have w0 : SE (nI 6) 1 (GB hd wt us 1) 0 = 0 := rfl
  have y1 : SXf (nI 6) 1 (GB hd wt us 1) 1 = GB hd wt us 1 2 4 := rfl
  have w1 : SE (nI 6) 1 (GB hd wt us 1) 1 = GB hd wt us 1 2 4 := rfl
  have y2 : SXf (nI 6) 1 (GB hd wt us 1) 2 = 0 := rfl
  have w2 : SE (nI 6) 1 (GB hd wt us 1) 2 = 0 := rfl
  have a0 : PAf hd wt us mj 2 0 = GB hd wt us (mj 0) (mj 1) (mj 1) := rfl
  rw [h0, h1] at a0
  have a1 : PAf hd wt us mj 2 1 = 0 := rfl
  have a2 : PAf hd wt us mj 2 2 = 0 := rfl
  have a3 : PAf hd wt us mj 2 3 = 0 := rfl
  have a4 : PAf hd wt us mj 2 4 = 1 := rfl
  have a5 : PAf hd wt us mj 2 5 = 0 := rfl
  have a6 : PAf hd wt us mj 2 6 = 0 := rfl
  have a7 : PAf hd wt us mj 2 7 = 0 := rfl
  have a8 : PAf hd wt us mj 2 8 = 1 := rfl
  have c0 : GOf hd wt us mj 2 0 = GB hd wt us (mj 0) (mj 1) 4 := rfl
  rw [h0, h1] at c0
  have c1 : GOf hd wt us mj 2 1 = 0 := rfl
  have c2 : GOf hd wt us mj 2 2 = 0 := rfl
  have eD : mD hd wt us mj 2 = D3 (PAf hd wt us mj 2) := rfl
  unfold D3 at eD
  rw [a0, a1, a2, a3, a4, a5, a6, a7, a8] at eD
  have eP0 : mP hd wt us mj 2 0 = D3 (RC (PAf hd wt us mj 2) (GOf hd wt us mj 2) 0) := rfl
  have eQ0 : D3 (RC (PAf hd wt us mj 2) (GOf hd wt us mj 2) 0) = (GOf hd wt us mj 2 0) * ((PAf hd wt us mj 2 4) * (PAf hd wt us mj 2 8) - (PAf hd wt us mj 2 5) * (PAf hd wt us mj 2 7)) + (PAf hd wt us mj 2 1) * ((PAf hd wt us mj 2 5) * (GOf hd wt us mj 2 2) - (GOf hd wt us mj 2 1) * (PAf hd wt us mj 2 8)) + (PAf hd wt us mj 2 2) * ((GOf hd wt us mj 2 1) * (PAf hd wt us mj 2 7) - (PAf hd wt us mj 2 4) * (GOf hd wt us mj 2 2)) := rfl
  rw [eQ0, a1, a2, a4, a5, a7, a8, c0, c1, c2] at eP0
  have eP1 : mP hd wt us mj 2 1 = D3 (RC (PAf hd wt us mj 2) (GOf hd wt us mj 2) 1) := rfl
  have eQ1 : D3 (RC (PAf hd wt us mj 2) (GOf hd wt us mj 2) 1) = (PAf hd wt us mj 2 0) * ((GOf hd wt us mj 2 1) * (PAf hd wt us mj 2 8) - (PAf hd wt us mj 2 5) * (GOf hd wt us mj 2 2)) + (GOf hd wt us mj 2 0) * ((PAf hd wt us mj 2 5) * (PAf hd wt us mj 2 6) - (PAf hd wt us mj 2 3) * (PAf hd wt us mj 2 8)) + (PAf hd wt us mj 2 2) * ((PAf hd wt us mj 2 3) * (GOf hd wt us mj 2 2) - (GOf hd wt us mj 2 1) * (PAf hd wt us mj 2 6)) := rfl
  rw [eQ1, a0, a2, a3, a5, a6, a8, c0, c1, c2] at eP1
  have eP2 : mP hd wt us mj 2 2 = D3 (RC (PAf hd wt us mj 2) (GOf hd wt us mj 2) 2) := rfl
  have eQ2 : D3 (RC (PAf hd wt us mj 2) (GOf hd wt us mj 2) 2) = (PAf hd wt us mj 2 0) * ((PAf hd wt us mj 2 4) * (GOf hd wt us mj 2 2) - (GOf hd wt us mj 2 1) * (PAf hd wt us mj 2 7)) + (PAf hd wt us mj 2 1) * ((GOf hd wt us mj 2 1) * (PAf hd wt us mj 2 6) - (PAf hd wt us mj 2 3) * (GOf hd wt us mj 2 2)) + (GOf hd wt us mj 2 0) * ((PAf hd wt us mj 2 3) * (PAf hd wt us mj 2 7) - (PAf hd wt us mj 2 4) * (PAf hd wt us mj 2 6)) := rfl
  rw [eQ2, a0, a1, a3, a4, a6, a7, c0, c1, c2] at eP2
  have eB : bX (nI 6) 1 (GB hd wt us 1) = D3 (MXf (nI 6) 1 (GB hd wt us 1)) := det3_D3
  unfold D3 at eB
  rw [x0, x1, x2, x3, x4, x5, x6, x7, x8] at eB
  have eX0 : pX (nI 6) 1 (GB hd wt us 1) 0 = _ := PT_0
  rw [x3, x4, x5, x6, x7, x8, y0, y1, y2] at eX0
  have eX1 : pX (nI 6) 1 (GB hd wt us 1) 1 = _ := PT_1
  rw [x0, x1, x2, x6, x7, x8, y0, y1, y2] at eX1
  have eX2 : pX (nI 6) 1 (GB hd wt us 1) 2 = _ := PT_2
  rw [x0, x1, x2, x3, x4, x5, y0, y1, y2] at eX2
  have kB : bX (nI 6) 1 (GB hd wt us 1) = mD hd wt us mj 2 := by rw [eB, eD] <;> grind
  have kX0 : pX (nI 6) 1 (GB hd wt us 1) 0 = 0 := by rw [eX0]; grind
  have kX1 : pX (nI 6) 1 (GB hd wt us 1) 1 = mP hd wt us mj 2 0 := by rw [eX1, eP0]; grind
  have kX2 : pX (nI 6) 1 (GB hd wt us 1) 2 = 0 := by rw [eX2]; grind
  have kF : fX (nI 6) 1 (GB hd wt us 1) = mF hd wt us mj 2 := by
    unfold fX mF
    rw [kB, kX0, kX1, kX2, w0, w1, w2, c0, c1, c2, h0]
    grind
  refine ⟨kB, kF, fun sh => ?_⟩
  have eS : mS hd wt us mj 2 sh = vp_updL (vp_updL sh (mj 1) (mP hd wt us mj 2 0)) (mj 0) (mD hd wt us mj 2 - mP hd wt us mj 2 0) := rfl
  rw [eS, h0, h1]
  have v0 : XP (nI 6) 1 (GB hd wt us 1) 0 = pX (nI 6) 1 (GB hd wt us 1) 0 := rfl
  have v1 : XP (nI 6) 1 (GB hd wt us 1) 1 = bX (nI 6) 1 (GB hd wt us 1) - pX (nI 6) 1 (GB hd wt us 1) 0 - pX (nI 6) 1 (GB hd wt us 1) 1 - pX (nI 6) 1 (GB hd wt us 1) 2 := rfl
  have v2 : XP (nI 6) 1 (GB hd wt us 1) 2 = pX (nI 6) 1 (GB hd wt us 1) 1 := rfl
  have v3 : XP (nI 6) 1 (GB hd wt us 1) 3 = pX (nI 6) 1 (GB hd wt us 1) 2 := rfl
  rw [v0, v1, v2, v3, kB, kX0, kX1, kX2]
  refine ⟨⟨rfl, rfl⟩, ?_, rfl, ⟨rfl, rfl⟩⟩
  refine (upL_at (f := (vp_updL sh 2 (mP hd wt us mj 2 0))) (k := 1)).trans ?_
  grind
theorem set_7 {hd wt : Nat → Int32} {us : Int32} {mj : Nat → Nat} (h0 : mj 0 = 0) (h1 : mj 1 = 1) (h2 : mj 2 = 2) : bX (nI 7) 0 (GB hd wt us 0) = mD hd wt us mj 3 ∧ fX (nI 7) 0 (GB hd wt us 0) = mF hd wt us mj 3 ∧ ∀ sh : Nat → Int64, (mS hd wt us mj 3 sh 0 = XP (nI 7) 0 (GB hd wt us 0) 0) ∧ (mS hd wt us mj 3 sh 1 = XP (nI 7) 0 (GB hd wt us 0) 1) ∧ (mS hd wt us mj 3 sh 2 = XP (nI 7) 0 (GB hd wt us 0) 2) ∧ (mS hd wt us mj 3 sh 3 = sh 3 ∧ XP (nI 7) 0 (GB hd wt us 0) 3 = 0) := by
  have x0 : MXf (nI 7) 0 (GB hd wt us 0) 0 = GB hd wt us 0 1 1 := rfl
  have x1 : MXf (nI 7) 0 (GB hd wt us 0) 1 = GB hd wt us 0 1 2 := rfl
  have x2 : MXf (nI 7) 0 (GB hd wt us 0) 2 = 0 := rfl
  have x3 : MXf (nI 7) 0 (GB hd wt us 0) 3 = GB hd wt us 0 2 1 := rfl
  have x4 : MXf (nI 7) 0 (GB hd wt us 0) 4 = GB hd wt us 0 2 2 := rfl
  have x5 : MXf (nI 7) 0 (GB hd wt us 0) 5 = 0 := rfl
  have x6 : MXf (nI 7) 0 (GB hd wt us 0) 6 = 0 := rfl
  have x7 : MXf (nI 7) 0 (GB hd wt us 0) 7 = 0 := rfl
  have x8 : MXf (nI 7) 0 (GB hd wt us 0) 8 = 1 := rfl
  have y0 : SXf (nI 7) 0 (GB hd wt us 0) 0 = GB hd wt us 0 1 4 := rfl
  have w0 : SE (nI 7) 0 (GB hd wt us 0) 0 = GB hd wt us 0 1 4 := rfl
  have y1 : SXf (nI 7) 0 (GB hd wt us 0) 1 = GB hd wt us 0 2 4 := rfl
  have w1 : SE (nI 7) 0 (GB hd wt us 0) 1 = GB hd wt us 0 2 4 := rfl
  have y2 : SXf (nI 7) 0 (GB hd wt us 0) 2 = 0 := rfl
  have w2 : SE (nI 7) 0 (GB hd wt us 0) 2 = 0 := rfl
  have a0 : PAf hd wt us mj 3 0 = GB hd wt us (mj 0) (mj 1) (mj 1) := rfl
  rw [h0, h1] at a0
  have a1 : PAf hd wt us mj 3 1 = GB hd wt us (mj 0) (mj 1) (mj 2) := rfl
  rw [h0, h1, h2] at a1
  have a2 : PAf hd wt us mj 3 2 = 0 := rfl
  have a3 : PAf hd wt us mj 3 3 = GB hd wt us (mj 0) (mj 2) (mj 1) := rfl
  rw [h0, h2, h1] at a3
  have a4 : PAf hd wt us mj 3 4 = GB hd wt us (mj 0) (mj 2) (mj 2) := rfl
  rw [h0, h2] at a4
  have a5 : PAf hd wt us mj 3 5 = 0 := rfl
  have a6 : PAf hd wt us mj 3 6 = 0 := rfl
  have a7 : PAf hd wt us mj 3 7 = 0 := rfl
  have a8 : PAf hd wt us mj 3 8 = 1 := rfl
  have c0 : GOf hd wt us mj 3 0 = GB hd wt us (mj 0) (mj 1) 4 := rfl
  rw [h0, h1] at c0
  have c1 : GOf hd wt us mj 3 1 = GB hd wt us (mj 0) (mj 2) 4 := rfl
  rw [h0, h2] at c1
  have c2 : GOf hd wt us mj 3 2 = 0 := rfl
  have s12 : GB hd wt us 0 2 1 = GB hd wt us 0 1 2 := GB_symm
  have eD : mD hd wt us mj 3 = D3 (PAf hd wt us mj 3) := rfl
  unfold D3 at eD
  rw [a0, a1, a2, a3, a4, a5, a6, a7, a8] at eD
  have eP0 : mP hd wt us mj 3 0 = D3 (RC (PAf hd wt us mj 3) (GOf hd wt us mj 3) 0) := rfl
  have eQ0 : D3 (RC (PAf hd wt us mj 3) (GOf hd wt us mj 3) 0) = (GOf hd wt us mj 3 0) * ((PAf hd wt us mj 3 4) * (PAf hd wt us mj 3 8) - (PAf hd wt us mj 3 5) * (PAf hd wt us mj 3 7)) + (PAf hd wt us mj 3 1) * ((PAf hd wt us mj 3 5) * (GOf hd wt us mj 3 2) - (GOf hd wt us mj 3 1) * (PAf hd wt us mj 3 8)) + (PAf hd wt us mj 3 2) * ((GOf hd wt us mj 3 1) * (PAf hd wt us mj 3 7) - (PAf hd wt us mj 3 4) * (GOf hd wt us mj 3 2)) := rfl
  rw [eQ0, a1, a2, a4, a5, a7, a8, c0, c1, c2] at eP0
  have eP1 : mP hd wt us mj 3 1 = D3 (RC (PAf hd wt us mj 3) (GOf hd wt us mj 3) 1) := rfl
  have eQ1 : D3 (RC (PAf hd wt us mj 3) (GOf hd wt us mj 3) 1) = (PAf hd wt us mj 3 0) * ((GOf hd wt us mj 3 1) * (PAf hd wt us mj 3 8) - (PAf hd wt us mj 3 5) * (GOf hd wt us mj 3 2)) + (GOf hd wt us mj 3 0) * ((PAf hd wt us mj 3 5) * (PAf hd wt us mj 3 6) - (PAf hd wt us mj 3 3) * (PAf hd wt us mj 3 8)) + (PAf hd wt us mj 3 2) * ((PAf hd wt us mj 3 3) * (GOf hd wt us mj 3 2) - (GOf hd wt us mj 3 1) * (PAf hd wt us mj 3 6)) := rfl
  rw [eQ1, a0, a2, a3, a5, a6, a8, c0, c1, c2] at eP1
  have eP2 : mP hd wt us mj 3 2 = D3 (RC (PAf hd wt us mj 3) (GOf hd wt us mj 3) 2) := rfl
  have eQ2 : D3 (RC (PAf hd wt us mj 3) (GOf hd wt us mj 3) 2) = (PAf hd wt us mj 3 0) * ((PAf hd wt us mj 3 4) * (GOf hd wt us mj 3 2) - (GOf hd wt us mj 3 1) * (PAf hd wt us mj 3 7)) + (PAf hd wt us mj 3 1) * ((GOf hd wt us mj 3 1) * (PAf hd wt us mj 3 6) - (PAf hd wt us mj 3 3) * (GOf hd wt us mj 3 2)) + (GOf hd wt us mj 3 0) * ((PAf hd wt us mj 3 3) * (PAf hd wt us mj 3 7) - (PAf hd wt us mj 3 4) * (PAf hd wt us mj 3 6)) := rfl
  rw [eQ2, a0, a1, a3, a4, a6, a7, c0, c1, c2] at eP2
  have eB : bX (nI 7) 0 (GB hd wt us 0) = D3 (MXf (nI 7) 0 (GB hd wt us 0)) := det3_D3
  unfold D3 at eB
  rw [x0, x1, x2, x3, x4, x5, x6, x7, x8] at eB
  have eX0 : pX (nI 7) 0 (GB hd wt us 0) 0 = _ := PT_0
  rw [x3, x4, x5, x6, x7, x8, y0, y1, y2] at eX0
  have eX1 : pX (nI 7) 0 (GB hd wt us 0) 1 = _ := PT_1
  rw [x0, x1, x2, x6, x7, x8, y0, y1, y2] at eX1
  have eX2 : pX (nI 7) 0 (GB hd wt us 0) 2 = _ := PT_2
  rw [x0, x1, x2, x3, x4, x5, y0, y1, y2] at eX2
  simp only [s12] at eD eB eP0 eP1 eP2 eX0 eX1 eX2
  have kB : bX (nI 7) 0 (GB hd wt us 0) = mD hd wt us mj 3 := by rw [eB, eD] <;> grind
  have kX0 : pX (nI 7) 0 (GB hd wt us 0) 0 = mP hd wt us mj 3 0 := by rw [eX0, eP0]; grind
  have kX1 : pX (nI 7) 0 (GB hd wt us 0) 1 = mP hd wt us mj 3 1 := by rw [eX1, eP1]; grind
  have kX2 : pX (nI 7) 0 (GB hd wt us 0) 2 = 0 := by rw [eX2]; grind
  have kF : fX (nI 7) 0 (GB hd wt us 0) = mF hd wt us mj 3 := by
    unfold fX mF
    rw [kB, kX0, kX1, kX2, w0, w1, w2, c0, c1, c2, h0]
    grind
  refine ⟨kB, kF, fun sh => ?_⟩
  have eS : mS hd wt us mj 3 sh = vp_updL (vp_updL (vp_updL sh (mj 1) (mP hd wt us mj 3 0)) (mj 2) (mP hd wt us mj 3 1)) (mj 0) (mD hd wt us mj 3 - mP hd wt us mj 3 0 - mP hd wt us mj 3 1) := rfl
  rw [eS, h0, h1, h2]
  have v0 : XP (nI 7) 0 (GB hd wt us 0) 0 = bX (nI 7) 0 (GB hd wt us 0) - pX (nI 7) 0 (GB hd wt us 0) 0 - pX (nI 7) 0 (GB hd wt us 0) 1 - pX (nI 7) 0 (GB hd wt us 0) 2 := rfl
  have v1 : XP (nI 7) 0 (GB hd wt us 0) 1 = pX (nI 7) 0 (GB hd wt us 0) 0 := rfl
  have v2 : XP (nI 7) 0 (GB hd wt us 0) 2 = pX (nI 7) 0 (GB hd wt us 0) 1 := rfl
  have v3 : XP (nI 7) 0 (GB hd wt us 0) 3 = pX (nI 7) 0 (GB hd wt us 0) 2 := rfl
  rw [v0, v1, v2, v3, kB, kX0, kX1, kX2]
  refine ⟨?_, rfl, rfl, ⟨rfl, rfl⟩⟩
  refine (upL_at (f := (vp_updL (vp_updL sh 1 (mP hd wt us mj 3 0)) 2 (mP hd wt us mj 3 1))) (k := 0)).trans ?_
  grind
theorem set_8 {hd wt : Nat → Int32} {us : Int32} {mj : Nat → Nat} (h0 : mj 0 = 3) : bX (nI 8) 3 (GB hd wt us 3) = mD hd wt us mj 1 ∧ fX (nI 8) 3 (GB hd wt us 3) = mF hd wt us mj 1 ∧ ∀ sh : Nat → Int64, (mS hd wt us mj 1 sh 0 = sh 0 ∧ XP (nI 8) 3 (GB hd wt us 3) 0 = 0) ∧ (mS hd wt us mj 1 sh 1 = sh 1 ∧ XP (nI 8) 3 (GB hd wt us 3) 1 = 0) ∧ (mS hd wt us mj 1 sh 2 = sh 2 ∧ XP (nI 8) 3 (GB hd wt us 3) 2 = 0) ∧ (mS hd wt us mj 1 sh 3 = XP (nI 8) 3 (GB hd wt us 3) 3) := by
  have x0 : MXf (nI 8) 3 (GB hd wt us 3) 0 = 1 := rfl
  have x1 : MXf (nI 8) 3 (GB hd wt us 3) 1 = 0 := rfl
  have x2 : MXf (nI 8) 3 (GB hd wt us 3) 2 = 0 := rfl
  have x3 : MXf (nI 8) 3 (GB hd wt us 3) 3 = 0 := rfl
  have x4 : MXf (nI 8) 3 (GB hd wt us 3) 4 = 1 := rfl
  have x5 : MXf (nI 8) 3 (GB hd wt us 3) 5 = 0 := rfl
  have x6 : MXf (nI 8) 3 (GB hd wt us 3) 6 = 0 := rfl
  have x7 : MXf (nI 8) 3 (GB hd wt us 3) 7 = 0 := rfl
  have x8 : MXf (nI 8) 3 (GB hd wt us 3) 8 = 1 := rfl
  have y0 : SXf (nI 8) 3 (GB hd wt us 3) 0 = 0 := rfl
  have w0 : SE (nI 8) 3 (GB hd wt us 3) 0 = 0 := rfl
  have y1 : SXf (nI 8) 3 (GB hd wt us 3) 1 = 0 := rfl
  have w1 : SE (nI 8) 3 (GB hd wt us 3) 1 = 0 := rfl
  have y2 : SXf (nI 8) 3 (GB hd wt us 3) 2 = 0 := rfl
  have w2 : SE (nI 8) 3 (GB hd wt us 3) 2 = 0 := rfl
  have a0 : PAf hd wt us mj 1 0 = 1 := rfl
  have a1 : PAf hd wt us mj 1 1 = 0 := rfl
  have a2 : PAf hd wt us mj 1 2 = 0 := rfl
  have a3 : PAf hd wt us mj 1 3 = 0 := rfl
  have a4 : PAf hd wt us mj 1 4 = 1 := rfl
  have a5 : PAf hd wt us mj 1 5 = 0 := rfl
  have a6 : PAf hd wt us mj 1 6 = 0 := rfl
  have a7 : PAf hd wt us mj 1 7 = 0 := rfl
  have a8 : PAf hd wt us mj 1 8 = 1 := rfl
  have c0 : GOf hd wt us mj 1 0 = 0 := rfl
  have c1 : GOf hd wt us mj 1 1 = 0 := rfl
  have c2 : GOf hd wt us mj 1 2 = 0 := rfl
  have eD : mD hd wt us mj 1 = D3 (PAf hd wt us mj 1) := rfl
  unfold D3 at eD
  rw [a0, a1, a2, a3, a4, a5, a6, a7, a8] at eD
  have eP0 : mP hd wt us mj 1 0 = D3 (RC (PAf hd wt us mj 1) (GOf hd wt us mj 1) 0) := rfl
  have eQ0 : D3 (RC (PAf hd wt us mj 1) (GOf hd wt us mj 1) 0) = (GOf hd wt us mj 1 0) * ((PAf hd wt us mj 1 4) * (PAf hd wt us mj 1 8) - (PAf hd wt us mj 1 5) * (PAf hd wt us mj 1 7)) + (PAf hd wt us mj 1 1) * ((PAf hd wt us mj 1 5) * (GOf hd wt us mj 1 2) - (GOf hd wt us mj 1 1) * (PAf hd wt us mj 1 8)) + (PAf hd wt us mj 1 2) * ((GOf hd wt us mj 1 1) * (PAf hd wt us mj 1 7) - (PAf hd wt us mj 1 4) * (GOf hd wt us mj 1 2)) := rfl
  rw [eQ0, a1, a2, a4, a5, a7, a8, c0, c1, c2] at eP0
  have eP1 : mP hd wt us mj 1 1 = D3 (RC (PAf hd wt us mj 1) (GOf hd wt us mj 1) 1) := rfl
  have eQ1 : D3 (RC (PAf hd wt us mj 1) (GOf hd wt us mj 1) 1) = (PAf hd wt us mj 1 0) * ((GOf hd wt us mj 1 1) * (PAf hd wt us mj 1 8) - (PAf hd wt us mj 1 5) * (GOf hd wt us mj 1 2)) + (GOf hd wt us mj 1 0) * ((PAf hd wt us mj 1 5) * (PAf hd wt us mj 1 6) - (PAf hd wt us mj 1 3) * (PAf hd wt us mj 1 8)) + (PAf hd wt us mj 1 2) * ((PAf hd wt us mj 1 3) * (GOf hd wt us mj 1 2) - (GOf hd wt us mj 1 1) * (PAf hd wt us mj 1 6)) := rfl
  rw [eQ1, a0, a2, a3, a5, a6, a8, c0, c1, c2] at eP1
  have eP2 : mP hd wt us mj 1 2 = D3 (RC (PAf hd wt us mj 1) (GOf hd wt us mj 1) 2) := rfl
  have eQ2 : D3 (RC (PAf hd wt us mj 1) (GOf hd wt us mj 1) 2) = (PAf hd wt us mj 1 0) * ((PAf hd wt us mj 1 4) * (GOf hd wt us mj 1 2) - (GOf hd wt us mj 1 1) * (PAf hd wt us mj 1 7)) + (PAf hd wt us mj 1 1) * ((GOf hd wt us mj 1 1) * (PAf hd wt us mj 1 6) - (PAf hd wt us mj 1 3) * (GOf hd wt us mj 1 2)) + (GOf hd wt us mj 1 0) * ((PAf hd wt us mj 1 3) * (PAf hd wt us mj 1 7) - (PAf hd wt us mj 1 4) * (PAf hd wt us mj 1 6)) := rfl
  rw [eQ2, a0, a1, a3, a4, a6, a7, c0, c1, c2] at eP2
  have eB : bX (nI 8) 3 (GB hd wt us 3) = D3 (MXf (nI 8) 3 (GB hd wt us 3)) := det3_D3
  unfold D3 at eB
  rw [x0, x1, x2, x3, x4, x5, x6, x7, x8] at eB
  have eX0 : pX (nI 8) 3 (GB hd wt us 3) 0 = _ := PT_0
  rw [x3, x4, x5, x6, x7, x8, y0, y1, y2] at eX0
  have eX1 : pX (nI 8) 3 (GB hd wt us 3) 1 = _ := PT_1
  rw [x0, x1, x2, x6, x7, x8, y0, y1, y2] at eX1
  have eX2 : pX (nI 8) 3 (GB hd wt us 3) 2 = _ := PT_2
  rw [x0, x1, x2, x3, x4, x5, y0, y1, y2] at eX2
  have kB : bX (nI 8) 3 (GB hd wt us 3) = mD hd wt us mj 1 := by rw [eB, eD] <;> grind
  have kX0 : pX (nI 8) 3 (GB hd wt us 3) 0 = 0 := by rw [eX0]; grind
  have kX1 : pX (nI 8) 3 (GB hd wt us 3) 1 = 0 := by rw [eX1]; grind
  have kX2 : pX (nI 8) 3 (GB hd wt us 3) 2 = 0 := by rw [eX2]; grind
  have kF : fX (nI 8) 3 (GB hd wt us 3) = mF hd wt us mj 1 := by
    unfold fX mF
    rw [kB, kX0, kX1, kX2, w0, w1, w2, c0, c1, c2, h0]
    grind
  refine ⟨kB, kF, fun sh => ?_⟩
  have eS : mS hd wt us mj 1 sh = vp_updL sh (mj 0) (mD hd wt us mj 1) := rfl
  rw [eS, h0]
  have v0 : XP (nI 8) 3 (GB hd wt us 3) 0 = pX (nI 8) 3 (GB hd wt us 3) 0 := rfl
  have v1 : XP (nI 8) 3 (GB hd wt us 3) 1 = pX (nI 8) 3 (GB hd wt us 3) 1 := rfl
  have v2 : XP (nI 8) 3 (GB hd wt us 3) 2 = pX (nI 8) 3 (GB hd wt us 3) 2 := rfl
  have v3 : XP (nI 8) 3 (GB hd wt us 3) 3 = bX (nI 8) 3 (GB hd wt us 3) - pX (nI 8) 3 (GB hd wt us 3) 0 - pX (nI 8) 3 (GB hd wt us 3) 1 - pX (nI 8) 3 (GB hd wt us 3) 2 := rfl
  rw [v0, v1, v2, v3, kB, kX0, kX1, kX2]
  refine ⟨⟨rfl, rfl⟩, ⟨rfl, rfl⟩, ⟨rfl, rfl⟩, ?_⟩
  refine (upL_at (f := sh) (k := 3)).trans ?_
  grind
theorem set_9 {hd wt : Nat → Int32} {us : Int32} {mj : Nat → Nat} (h0 : mj 0 = 0) (h1 : mj 1 = 3) : bX (nI 9) 0 (GB hd wt us 0) = mD hd wt us mj 2 ∧ fX (nI 9) 0 (GB hd wt us 0) = mF hd wt us mj 2 ∧ ∀ sh : Nat → Int64, (mS hd wt us mj 2 sh 0 = XP (nI 9) 0 (GB hd wt us 0) 0) ∧ (mS hd wt us mj 2 sh 1 = sh 1 ∧ XP (nI 9) 0 (GB hd wt us 0) 1 = 0) ∧ (mS hd wt us mj 2 sh 2 = sh 2 ∧ XP (nI 9) 0 (GB hd wt us 0) 2 = 0) ∧ (mS hd wt us mj 2 sh 3 = XP (nI 9) 0 (GB hd wt us 0) 3) := by
  have x0 : MXf (nI 9) 0 (GB hd wt us 0) 0 = 1 := rfl
  have x1 : MXf (nI 9) 0 (GB hd wt us 0) 1 = 0 := rfl
  have x2 : MXf (nI 9) 0 (GB hd wt us 0) 2 = 0 := rfl
  have x3 : MXf (nI 9) 0 (GB hd wt us 0) 3 = 0 := rfl
  have x4 : MXf (nI 9) 0 (GB hd wt us 0) 4 = 1 := rfl
  have x5 : MXf (nI 9) 0 (GB hd wt us 0) 5 = 0 := rfl
  have x6 : MXf (nI 9) 0 (GB hd wt us 0) 6 = 0 := rfl
  have x7 : MXf (nI 9) 0 (GB hd wt us 0) 7 = 0 := rfl
  have x8 : MXf (nI 9) 0 (GB hd wt us 0) 8 = GB hd wt us 0 3 3 := rfl
  have y0 : SXf (nI 9) 0 (GB hd wt us 0) 0 = 0 := rfl
  have w0 : SE (nI 9) 0 (GB hd wt us 0) 0 = 0 := rfl
  have y1 : SXf (nI 9) 0 (GB hd wt us 0) 1 = 0 := rfl
  have w1 : SE (nI 9) 0 (GB hd wt us 0) 1 = 0 := rfl
  have y2 : SXf (nI 9) 0 (GB hd wt us 0) 2 = GB hd wt us 0 3 4 := rfl
  have w2 : SE (nI 9) 0 (GB hd wt us 0) 2 = GB hd wt us 0 3 4 := rfl
  have a0 : PAf hd wt us mj 2 0 = GB hd wt us (mj 0) (mj 1) (mj 1) := rfl
  rw [h0, h1] at a0
  have a1 : PAf hd wt us mj 2 1 = 0 := rfl
  have a2 : PAf hd wt us mj 2 2 = 0 := rfl
  have a3 : PAf hd wt us mj 2 3 = 0 := rfl
  have a4 : PAf hd wt us mj 2 4 = 1 := rfl
  have a5 : PAf hd wt us mj 2 5 = 0 := rfl
  have a6 : PAf hd wt us mj 2 6 = 0 := rfl
  have a7 : PAf hd wt us mj 2 7 = 0 := rfl
  have a8 : PAf hd wt us mj 2 8 = 1 := rfl
  have c0 : GOf hd wt us mj 2 0 = GB hd wt us (mj 0) (mj 1) 4 := rfl
  rw [h0, h1] at c0
  have c1 : GOf hd wt us mj 2 1 = 0 := rfl
  have c2 : GOf hd wt us mj 2 2 = 0 := rfl
  have eD : mD hd wt us mj 2 = D3 (PAf hd wt us mj 2) := rfl
  unfold D3 at eD
  rw [a0, a1, a2, a3, a4, a5, a6, a7, a8] at eD
  have eP0 : mP hd wt us mj 2 0 = D3 (RC (PAf hd wt us mj 2) (GOf hd wt us mj 2) 0) := rfl
  have eQ0 : D3 (RC (PAf hd wt us mj 2) (GOf hd wt us mj 2) 0) = (GOf hd wt us mj 2 0) * ((PAf hd wt us mj 2 4) * (PAf hd wt us mj 2 8) - (PAf hd wt us mj 2 5) * (PAf hd wt us mj 2 7)) + (PAf hd wt us mj 2 1) * ((PAf hd wt us mj 2 5) * (GOf hd wt us mj 2 2) - (GOf hd wt us mj 2 1) * (PAf hd wt us mj 2 8)) + (PAf hd wt us mj 2 2) * ((GOf hd wt us mj 2 1) * (PAf hd wt us mj 2 7) - (PAf hd wt us mj 2 4) * (GOf hd wt us mj 2 2)) := rfl
  rw [eQ0, a1, a2, a4, a5, a7, a8, c0, c1, c2] at eP0
  have eP1 : mP hd wt us mj 2 1 = D3 (RC (PAf hd wt us mj 2) (GOf hd wt us mj 2) 1) := rfl
  have eQ1 : D3 (RC (PAf hd wt us mj 2) (GOf hd wt us mj 2) 1) = (PAf hd wt us mj 2 0) * ((GOf hd wt us mj 2 1) * (PAf hd wt us mj 2 8) - (PAf hd wt us mj 2 5) * (GOf hd wt us mj 2 2)) + (GOf hd wt us mj 2 0) * ((PAf hd wt us mj 2 5) * (PAf hd wt us mj 2 6) - (PAf hd wt us mj 2 3) * (PAf hd wt us mj 2 8)) + (PAf hd wt us mj 2 2) * ((PAf hd wt us mj 2 3) * (GOf hd wt us mj 2 2) - (GOf hd wt us mj 2 1) * (PAf hd wt us mj 2 6)) := rfl
  rw [eQ1, a0, a2, a3, a5, a6, a8, c0, c1, c2] at eP1
  have eP2 : mP hd wt us mj 2 2 = D3 (RC (PAf hd wt us mj 2) (GOf hd wt us mj 2) 2) := rfl
  have eQ2 : D3 (RC (PAf hd wt us mj 2) (GOf hd wt us mj 2) 2) = (PAf hd wt us mj 2 0) * ((PAf hd wt us mj 2 4) * (GOf hd wt us mj 2 2) - (GOf hd wt us mj 2 1) * (PAf hd wt us mj 2 7)) + (PAf hd wt us mj 2 1) * ((GOf hd wt us mj 2 1) * (PAf hd wt us mj 2 6) - (PAf hd wt us mj 2 3) * (GOf hd wt us mj 2 2)) + (GOf hd wt us mj 2 0) * ((PAf hd wt us mj 2 3) * (PAf hd wt us mj 2 7) - (PAf hd wt us mj 2 4) * (PAf hd wt us mj 2 6)) := rfl
  rw [eQ2, a0, a1, a3, a4, a6, a7, c0, c1, c2] at eP2
  have eB : bX (nI 9) 0 (GB hd wt us 0) = D3 (MXf (nI 9) 0 (GB hd wt us 0)) := det3_D3
  unfold D3 at eB
  rw [x0, x1, x2, x3, x4, x5, x6, x7, x8] at eB
  have eX0 : pX (nI 9) 0 (GB hd wt us 0) 0 = _ := PT_0
  rw [x3, x4, x5, x6, x7, x8, y0, y1, y2] at eX0
  have eX1 : pX (nI 9) 0 (GB hd wt us 0) 1 = _ := PT_1
  rw [x0, x1, x2, x6, x7, x8, y0, y1, y2] at eX1
  have eX2 : pX (nI 9) 0 (GB hd wt us 0) 2 = _ := PT_2
  rw [x0, x1, x2, x3, x4, x5, y0, y1, y2] at eX2
  have kB : bX (nI 9) 0 (GB hd wt us 0) = mD hd wt us mj 2 := by rw [eB, eD] <;> grind
  have kX0 : pX (nI 9) 0 (GB hd wt us 0) 0 = 0 := by rw [eX0]; grind
  have kX1 : pX (nI 9) 0 (GB hd wt us 0) 1 = 0 := by rw [eX1]; grind
  have kX2 : pX (nI 9) 0 (GB hd wt us 0) 2 = mP hd wt us mj 2 0 := by rw [eX2, eP0]; grind
  have kF : fX (nI 9) 0 (GB hd wt us 0) = mF hd wt us mj 2 := by
    unfold fX mF
    rw [kB, kX0, kX1, kX2, w0, w1, w2, c0, c1, c2, h0]
    grind
  refine ⟨kB, kF, fun sh => ?_⟩
  have eS : mS hd wt us mj 2 sh = vp_updL (vp_updL sh (mj 1) (mP hd wt us mj 2 0)) (mj 0) (mD hd wt us mj 2 - mP hd wt us mj 2 0) := rfl
  rw [eS, h0, h1]
  have v0 : XP (nI 9) 0 (GB hd wt us 0) 0 = bX (nI 9) 0 (GB hd wt us 0) - pX (nI 9) 0 (GB hd wt us 0) 0 - pX (nI 9) 0 (GB hd wt us 0) 1 - pX (nI 9) 0 (GB hd wt us 0) 2 := rfl
  have v1 : XP (nI 9) 0 (GB hd wt us 0) 1 = pX (nI 9) 0 (GB hd wt us 0) 0 := rfl
  have v2 : XP (nI 9) 0 (GB hd wt us 0) 2 = pX (nI 9) 0 (GB hd wt us 0) 1 := rfl
  have v3 : XP (nI 9) 0 (GB hd wt us 0) 3 = pX (nI 9) 0 (GB hd wt us 0) 2 := rfl
  rw [v0, v1, v2, v3, kB, kX0, kX1, kX2]
  refine ⟨?_, ⟨rfl, rfl⟩, ⟨rfl, rfl⟩, rfl⟩
  refine (upL_at (f := (vp_updL sh 3 (mP hd wt us mj 2 0))) (k := 0)).trans ?_
  grind
theorem set_10 {hd wt : Nat → Int32} {us : Int32} {mj : Nat → Nat} (h0 : mj 0 = 1) (h1 : mj 1 = 3) : bX (nI 10) 1 (GB hd wt us 1) = mD hd wt us mj 2 ∧ fX (nI 10) 1 (GB hd wt us 1) = mF hd wt us mj 2 ∧ ∀ sh : Nat → Int64, (mS hd wt us mj 2 sh 0 = sh 0 ∧ XP (nI 10) 1 (GB hd wt us 1) 0 = 0) ∧ (mS hd wt us mj 2 sh 1 = XP (nI 10) 1 (GB hd wt us 1) 1) ∧ (mS hd wt us mj 2 sh 2 = sh 2 ∧ XP (nI 10) 1 (GB hd wt us 1) 2 = 0) ∧ (mS hd wt us mj 2 sh 3 = XP (nI 10) 1 (GB hd wt us 1) 3) := by
  have x0 : MXf (nI 10) 1 (GB hd wt us 1) 0 = 1 := rfl
  have x1 : MXf (nI 10) 1 (GB hd wt us 1) 1 = 0 := rfl
  have x2 : MXf (nI 10) 1 (GB hd wt us 1) 2 = 0 := rfl
  have x3 : MXf (nI 10) 1 (GB hd wt us 1) 3 = 0 := rfl
  have x4 : MXf (nI 10) 1 (GB hd wt us 1) 4 = 1 := rfl
  have x5 : MXf (nI 10) 1 (GB hd wt us 1) 5 = 0 := rfl
  have x6 : MXf (nI 10) 1 (GB hd wt us 1) 6 = 0 := rfl
  have x7 : MXf (nI 10) 1 (GB hd wt us 1) 7 = 0 := rfl
  have x8 : MXf (nI 10) 1 (GB hd wt us 1) 8 = GB hd wt us 1 3 3 := rfl
  have y0 : SXf (nI 10) 1 (GB hd wt us 1) 0 = 0 := rfl
  have w0 : SE (nI 10) 1 (GB hd wt us 1) 0 = 0 := rfl
  have y1 : SXf (nI 10) 1 (GB hd wt us 1) 1 = 0 := rfl
  have w1 : SE (nI 10) 1 (GB hd wt us 1) 1 = 0 := rfl
  have y2 : SXf (nI 10) 1 (GB hd wt us 1) 2 = GB hd wt us 1 3 4 := rfl
  have w2 : SE (nI 10) 1 (GB hd wt us 1) 2 = GB hd wt us 1 3 4 := rfl
  have a0 : PAf hd wt us mj 2 0 = GB hd wt us (mj 0) (mj 1) (mj 1) := rfl
  rw [h0, h1] at a0
  have a1 : PAf hd wt us mj 2 1 = 0 := rfl
  have a2 : PAf hd wt us mj 2 2 = 0 := rfl
  have a3 : PAf hd wt us mj 2 3 = 0 := rfl
  have a4 : PAf hd wt us mj 2 4 = 1 := rfl
  have a5 : PAf hd wt us mj 2 5 = 0 := rfl
  have a6 : PAf hd wt us mj 2 6 = 0 := rfl
  have a7 : PAf hd wt us mj 2 7 = 0 := rfl
  have a8 : PAf hd wt us mj 2 8 = 1 := rfl
  have c0 : GOf hd wt us mj 2 0 = GB hd wt us (mj 0) (mj 1) 4 := rfl
  rw [h0, h1] at c0
  have c1 : GOf hd wt us mj 2 1 = 0 := rfl
  have c2 : GOf hd wt us mj 2 2 = 0 := rfl
  have eD : mD hd wt us mj 2 = D3 (PAf hd wt us mj 2) := rfl
  unfold D3 at eD
  rw [a0, a1, a2, a3, a4, a5, a6, a7, a8] at eD
  have eP0 : mP hd wt us mj 2 0 = D3 (RC (PAf hd wt us mj 2) (GOf hd wt us mj 2) 0) := rfl
  have eQ0 : D3 (RC (PAf hd wt us mj 2) (GOf hd wt us mj 2) 0) = (GOf hd wt us mj 2 0) * ((PAf hd wt us mj 2 4) * (PAf hd wt us mj 2 8) - (PAf hd wt us mj 2 5) * (PAf hd wt us mj 2 7)) + (PAf hd wt us mj 2 1) * ((PAf hd wt us mj 2 5) * (GOf hd wt us mj 2 2) - (GOf hd wt us mj 2 1) * (PAf hd wt us mj 2 8)) + (PAf hd wt us mj 2 2) * ((GOf hd wt us mj 2 1) * (PAf hd wt us mj 2 7) - (PAf hd wt us mj 2 4) * (GOf hd wt us mj 2 2)) := rfl
  rw [eQ0, a1, a2, a4, a5, a7, a8, c0, c1, c2] at eP0
  have eP1 : mP hd wt us mj 2 1 = D3 (RC (PAf hd wt us mj 2) (GOf hd wt us mj 2) 1) := rfl
  have eQ1 : D3 (RC (PAf hd wt us mj 2) (GOf hd wt us mj 2) 1) = (PAf hd wt us mj 2 0) * ((GOf hd wt us mj 2 1) * (PAf hd wt us mj 2 8) - (PAf hd wt us mj 2 5) * (GOf hd wt us mj 2 2)) + (GOf hd wt us mj 2 0) * ((PAf hd wt us mj 2 5) * (PAf hd wt us mj 2 6) - (PAf hd wt us mj 2 3) * (PAf hd wt us mj 2 8)) + (PAf hd wt us mj 2 2) * ((PAf hd wt us mj 2 3) * (GOf hd wt us mj 2 2) - (GOf hd wt us mj 2 1) * (PAf hd wt us mj 2 6)) := rfl
  rw [eQ1, a0, a2, a3, a5, a6, a8, c0, c1, c2] at eP1
  have eP2 : mP hd wt us mj 2 2 = D3 (RC (PAf hd wt us mj 2) (GOf hd wt us mj 2) 2) := rfl
  have eQ2 : D3 (RC (PAf hd wt us mj 2) (GOf hd wt us mj 2) 2) = (PAf hd wt us mj 2 0) * ((PAf hd wt us mj 2 4) * (GOf hd wt us mj 2 2) - (GOf hd wt us mj 2 1) * (PAf hd wt us mj 2 7)) + (PAf hd wt us mj 2 1) * ((GOf hd wt us mj 2 1) * (PAf hd wt us mj 2 6) - (PAf hd wt us mj 2 3) * (GOf hd wt us mj 2 2)) + (GOf hd wt us mj 2 0) * ((PAf hd wt us mj 2 3) * (PAf hd wt us mj 2 7) - (PAf hd wt us mj 2 4) * (PAf hd wt us mj 2 6)) := rfl
  rw [eQ2, a0, a1, a3, a4, a6, a7, c0, c1, c2] at eP2
  have eB : bX (nI 10) 1 (GB hd wt us 1) = D3 (MXf (nI 10) 1 (GB hd wt us 1)) := det3_D3
  unfold D3 at eB
  rw [x0, x1, x2, x3, x4, x5, x6, x7, x8] at eB
  have eX0 : pX (nI 10) 1 (GB hd wt us 1) 0 = _ := PT_0
  rw [x3, x4, x5, x6, x7, x8, y0, y1, y2] at eX0
  have eX1 : pX (nI 10) 1 (GB hd wt us 1) 1 = _ := PT_1
  rw [x0, x1, x2, x6, x7, x8, y0, y1, y2] at eX1
  have eX2 : pX (nI 10) 1 (GB hd wt us 1) 2 = _ := PT_2
  rw [x0, x1, x2, x3, x4, x5, y0, y1, y2] at eX2
  have kB : bX (nI 10) 1 (GB hd wt us 1) = mD hd wt us mj 2 := by rw [eB, eD] <;> grind
  have kX0 : pX (nI 10) 1 (GB hd wt us 1) 0 = 0 := by rw [eX0]; grind
  have kX1 : pX (nI 10) 1 (GB hd wt us 1) 1 = 0 := by rw [eX1]; grind
  have kX2 : pX (nI 10) 1 (GB hd wt us 1) 2 = mP hd wt us mj 2 0 := by rw [eX2, eP0]; grind
  have kF : fX (nI 10) 1 (GB hd wt us 1) = mF hd wt us mj 2 := by
    unfold fX mF
    rw [kB, kX0, kX1, kX2, w0, w1, w2, c0, c1, c2, h0]
    grind
  refine ⟨kB, kF, fun sh => ?_⟩
  have eS : mS hd wt us mj 2 sh = vp_updL (vp_updL sh (mj 1) (mP hd wt us mj 2 0)) (mj 0) (mD hd wt us mj 2 - mP hd wt us mj 2 0) := rfl
  rw [eS, h0, h1]
  have v0 : XP (nI 10) 1 (GB hd wt us 1) 0 = pX (nI 10) 1 (GB hd wt us 1) 0 := rfl
  have v1 : XP (nI 10) 1 (GB hd wt us 1) 1 = bX (nI 10) 1 (GB hd wt us 1) - pX (nI 10) 1 (GB hd wt us 1) 0 - pX (nI 10) 1 (GB hd wt us 1) 1 - pX (nI 10) 1 (GB hd wt us 1) 2 := rfl
  have v2 : XP (nI 10) 1 (GB hd wt us 1) 2 = pX (nI 10) 1 (GB hd wt us 1) 1 := rfl
  have v3 : XP (nI 10) 1 (GB hd wt us 1) 3 = pX (nI 10) 1 (GB hd wt us 1) 2 := rfl
  rw [v0, v1, v2, v3, kB, kX0, kX1, kX2]
  refine ⟨⟨rfl, rfl⟩, ?_, ⟨rfl, rfl⟩, rfl⟩
  refine (upL_at (f := (vp_updL sh 3 (mP hd wt us mj 2 0))) (k := 1)).trans ?_
  grind
theorem set_11 {hd wt : Nat → Int32} {us : Int32} {mj : Nat → Nat} (h0 : mj 0 = 0) (h1 : mj 1 = 1) (h2 : mj 2 = 3) : bX (nI 11) 0 (GB hd wt us 0) = mD hd wt us mj 3 ∧ fX (nI 11) 0 (GB hd wt us 0) = mF hd wt us mj 3 ∧ ∀ sh : Nat → Int64, (mS hd wt us mj 3 sh 0 = XP (nI 11) 0 (GB hd wt us 0) 0) ∧ (mS hd wt us mj 3 sh 1 = XP (nI 11) 0 (GB hd wt us 0) 1) ∧ (mS hd wt us mj 3 sh 2 = sh 2 ∧ XP (nI 11) 0 (GB hd wt us 0) 2 = 0) ∧ (mS hd wt us mj 3 sh 3 = XP (nI 11) 0 (GB hd wt us 0) 3) := by
  have x0 : MXf (nI 11) 0 (GB hd wt us 0) 0 = GB hd wt us 0 1 1 := rfl
  have x1 : MXf (nI 11) 0 (GB hd wt us 0) 1 = 0 := rfl
  have x2 : MXf (nI 11) 0 (GB hd wt us 0) 2 = GB hd wt us 0 1 3 := rfl
  have x3 : MXf (nI 11) 0 (GB hd wt us 0) 3 = 0 := rfl
  have x4 : MXf (nI 11) 0 (GB hd wt us 0) 4 = 1 := rfl
  have x5 : MXf (nI 11) 0 (GB hd wt us 0) 5 = 0 := rfl
  have x6 : MXf (nI 11) 0 (GB hd wt us 0) 6 = GB hd wt us 0 3 1 := rfl
  have x7 : MXf (nI 11) 0 (GB hd wt us 0) 7 = 0 := rfl
  have x8 : MXf (nI 11) 0 (GB hd wt us 0) 8 = GB hd wt us 0 3 3 := rfl
  have y0 : SXf (nI 11) 0 (GB hd wt us 0) 0 = GB hd wt us 0 1 4 := rfl
  have w0 : SE (nI 11) 0 (GB hd wt us 0) 0 = GB hd wt us 0 1 4 := rfl
  have y1 : SXf (nI 11) 0 (GB hd wt us 0) 1 = 0 := rfl
  have w1 : SE (nI 11) 0 (GB hd wt us 0) 1 = 0 := rfl
  have y2 : SXf (nI 11) 0 (GB hd wt us 0) 2 = GB hd wt us 0 3 4 := rfl
  have w2 : SE (nI 11) 0 (GB hd wt us 0) 2 = GB hd wt us 0 3 4 := rfl
  have a0 : PAf hd wt us mj 3 0 = GB hd wt us (mj 0) (mj 1) (mj 1) := rfl
  rw [h0, h1] at a0
  have a1 : PAf hd wt us mj 3 1 = GB hd wt us (mj 0) (mj 1) (mj 2) := rfl
  rw [h0, h1, h2] at a1
  have a2 : PAf hd wt us mj 3 2 = 0 := rfl
  have a3 : PAf hd wt us mj 3 3 = GB hd wt us (mj 0) (mj 2) (mj 1) := rfl
  rw [h0, h2, h1] at a3
  have a4 : PAf hd wt us mj 3 4 = GB hd wt us (mj 0) (mj 2) (mj 2) := rfl
  rw [h0, h2] at a4
  have a5 : PAf hd wt us mj 3 5 = 0 := rfl
  have a6 : PAf hd wt us mj 3 6 = 0 := rfl
  have a7 : PAf hd wt us mj 3 7 = 0 := rfl
  have a8 : PAf hd wt us mj 3 8 = 1 := rfl
  have c0 : GOf hd wt us mj 3 0 = GB hd wt us (mj 0) (mj 1) 4 := rfl
  rw [h0, h1] at c0
  have c1 : GOf hd wt us mj 3 1 = GB hd wt us (mj 0) (mj 2) 4 := rfl
  rw [h0, h2] at c1
  have c2 : GOf hd wt us mj 3 2 = 0 := rfl
  have s13 : GB hd wt us 0 3 1 = GB hd wt us 0 1 3 := GB_symm
  have eD : mD hd wt us mj 3 = D3 (PAf hd wt us mj 3) := rfl
  unfold D3 at eD
  rw [a0, a1, a2, a3, a4, a5, a6, a7, a8] at eD
  have eP0 : mP hd wt us mj 3 0 = D3 (RC (PAf hd wt us mj 3) (GOf hd wt us mj 3) 0) := rfl
  have eQ0 : D3 (RC (PAf hd wt us mj 3) (GOf hd wt us mj 3) 0) = (GOf hd wt us mj 3 0) * ((PAf hd wt us mj 3 4) * (PAf hd wt us mj 3 8) - (PAf hd wt us mj 3 5) * (PAf hd wt us mj 3 7)) + (PAf hd wt us mj 3 1) * ((PAf hd wt us mj 3 5) * (GOf hd wt us mj 3 2) - (GOf hd wt us mj 3 1) * (PAf hd wt us mj 3 8)) + (PAf hd wt us mj 3 2) * ((GOf hd wt us mj 3 1) * (PAf hd wt us mj 3 7) - (PAf hd wt us mj 3 4) * (GOf hd wt us mj 3 2)) := rfl
  rw [eQ0, a1, a2, a4, a5, a7, a8, c0, c1, c2] at eP0
  have eP1 : mP hd wt us mj 3 1 = D3 (RC (PAf hd wt us mj 3) (GOf hd wt us mj 3) 1) := rfl
  have eQ1 : D3 (RC (PAf hd wt us mj 3) (GOf hd wt us mj 3) 1) = (PAf hd wt us mj 3 0) * ((GOf hd wt us mj 3 1) * (PAf hd wt us mj 3 8) - (PAf hd wt us mj 3 5) * (GOf hd wt us mj 3 2)) + (GOf hd wt us mj 3 0) * ((PAf hd wt us mj 3 5) * (PAf hd wt us mj 3 6) - (PAf hd wt us mj 3 3) * (PAf hd wt us mj 3 8)) + (PAf hd wt us mj 3 2) * ((PAf hd wt us mj 3 3) * (GOf hd wt us mj 3 2) - (GOf hd wt us mj 3 1) * (PAf hd wt us mj 3 6)) := rfl
  rw [eQ1, a0, a2, a3, a5, a6, a8, c0, c1, c2] at eP1
  have eP2 : mP hd wt us mj 3 2 = D3 (RC (PAf hd wt us mj 3) (GOf hd wt us mj 3) 2) := rfl
  have eQ2 : D3 (RC (PAf hd wt us mj 3) (GOf hd wt us mj 3) 2) = (PAf hd wt us mj 3 0) * ((PAf hd wt us mj 3 4) * (GOf hd wt us mj 3 2) - (GOf hd wt us mj 3 1) * (PAf hd wt us mj 3 7)) + (PAf hd wt us mj 3 1) * ((GOf hd wt us mj 3 1) * (PAf hd wt us mj 3 6) - (PAf hd wt us mj 3 3) * (GOf hd wt us mj 3 2)) + (GOf hd wt us mj 3 0) * ((PAf hd wt us mj 3 3) * (PAf hd wt us mj 3 7) - (PAf hd wt us mj 3 4) * (PAf hd wt us mj 3 6)) := rfl
  rw [eQ2, a0, a1, a3, a4, a6, a7, c0, c1, c2] at eP2
  have eB : bX (nI 11) 0 (GB hd wt us 0) = D3 (MXf (nI 11) 0 (GB hd wt us 0)) := det3_D3
  unfold D3 at eB
  rw [x0, x1, x2, x3, x4, x5, x6, x7, x8] at eB
  have eX0 : pX (nI 11) 0 (GB hd wt us 0) 0 = _ := PT_0
  rw [x3, x4, x5, x6, x7, x8, y0, y1, y2] at eX0
  have eX1 : pX (nI 11) 0 (GB hd wt us 0) 1 = _ := PT_1
  rw [x0, x1, x2, x6, x7, x8, y0, y1, y2] at eX1
  have eX2 : pX (nI 11) 0 (GB hd wt us 0) 2 = _ := PT_2
  rw [x0, x1, x2, x3, x4, x5, y0, y1, y2] at eX2
  simp only [s13] at eD eB eP0 eP1 eP2 eX0 eX1 eX2
  have kB : bX (nI 11) 0 (GB hd wt us 0) = mD hd wt us mj 3 := by rw [eB, eD] <;> grind
  have kX0 : pX (nI 11) 0 (GB hd wt us 0) 0 = mP hd wt us mj 3 0 := by rw [eX0, eP0]; grind
  have kX1 : pX (nI 11) 0 (GB hd wt us 0) 1 = 0 := by rw [eX1]; grind
  have kX2 : pX (nI 11) 0 (GB hd wt us 0) 2 = mP hd wt us mj 3 1 := by rw [eX2, eP1]; grind
  have kF : fX (nI 11) 0 (GB hd wt us 0) = mF hd wt us mj 3 := by
    unfold fX mF
    rw [kB, kX0, kX1, kX2, w0, w1, w2, c0, c1, c2, h0]
    grind
  refine ⟨kB, kF, fun sh => ?_⟩
  have eS : mS hd wt us mj 3 sh = vp_updL (vp_updL (vp_updL sh (mj 1) (mP hd wt us mj 3 0)) (mj 2) (mP hd wt us mj 3 1)) (mj 0) (mD hd wt us mj 3 - mP hd wt us mj 3 0 - mP hd wt us mj 3 1) := rfl
  rw [eS, h0, h1, h2]
  have v0 : XP (nI 11) 0 (GB hd wt us 0) 0 = bX (nI 11) 0 (GB hd wt us 0) - pX (nI 11) 0 (GB hd wt us 0) 0 - pX (nI 11) 0 (GB hd wt us 0) 1 - pX (nI 11) 0 (GB hd wt us 0) 2 := rfl
  have v1 : XP (nI 11) 0 (GB hd wt us 0) 1 = pX (nI 11) 0 (GB hd wt us 0) 0 := rfl
  have v2 : XP (nI 11) 0 (GB hd wt us 0) 2 = pX (nI 11) 0 (GB hd wt us 0) 1 := rfl
  have v3 : XP (nI 11) 0 (GB hd wt us 0) 3 = pX (nI 11) 0 (GB hd wt us 0) 2 := rfl
  rw [v0, v1, v2, v3, kB, kX0, kX1, kX2]
  refine ⟨?_, rfl, ⟨rfl, rfl⟩, rfl⟩
  refine (upL_at (f := (vp_updL (vp_updL sh 1 (mP hd wt us mj 3 0)) 3 (mP hd wt us mj 3 1))) (k := 0)).trans ?_
  grind
theorem set_12 {hd wt : Nat → Int32} {us : Int32} {mj : Nat → Nat} (h0 : mj 0 = 2) (h1 : mj 1 = 3) : bX (nI 12) 2 (GB hd wt us 2) = mD hd wt us mj 2 ∧ fX (nI 12) 2 (GB hd wt us 2) = mF hd wt us mj 2 ∧ ∀ sh : Nat → Int64, (mS hd wt us mj 2 sh 0 = sh 0 ∧ XP (nI 12) 2 (GB hd wt us 2) 0 = 0) ∧ (mS hd wt us mj 2 sh 1 = sh 1 ∧ XP (nI 12) 2 (GB hd wt us 2) 1 = 0) ∧ (mS hd wt us mj 2 sh 2 = XP (nI 12) 2 (GB hd wt us 2) 2) ∧ (mS hd wt us mj 2 sh 3 = XP (nI 12) 2 (GB hd wt us 2) 3) := by
  have x0 : MXf (nI 12) 2 (GB hd wt us 2) 0 = 1 := rfl
  have x1 : MXf (nI 12) 2 (GB hd wt us 2) 1 = 0 := rfl
  have x2 : MXf (nI 12) 2 (GB hd wt us 2) 2 = 0 := rfl
  have x3 : MXf (nI 12) 2 (GB hd wt us 2) 3 = 0 := rfl
  have x4 : MXf (nI 12) 2 (GB hd wt us 2) 4 = 1 := rfl
  have x5 : MXf (nI 12) 2 (GB hd wt us 2) 5 = 0 := rfl
  have x6 : MXf (nI 12) 2 (GB hd wt us 2) 6 = 0 := rfl
  have x7 : MXf (nI 12) 2 (GB hd wt us 2) 7 = 0 := rfl
  have x8 : MXf (nI 12) 2 (GB hd wt us 2) 8 = GB hd wt us 2 3 3 := rfl
  have y0 : SXf (nI 12) 2 (GB hd wt us 2) 0 = 0 := rfl
  have w0 : SE (nI 12) 2 (GB hd wt us 2) 0 = 0 := rfl
  have y1 : SXf (nI 12) 2 (GB hd wt us 2) 1 = 0 := rfl
  have w1 : SE (nI 12) 2 (GB hd wt us 2) 1 = 0 := rfl
  have y2 : SXf (nI 12) 2 (GB hd wt us 2) 2 = GB hd wt us 2 3 4 := rfl
  have w2 : SE (nI 12) 2 (GB hd wt us 2) 2 = GB hd wt us 2 3 4 := rfl
  have a0 : PAf hd wt us mj 2 0 = GB hd wt us (mj 0) (mj 1) (mj 1) := rfl
  rw [h0, h1] at a0
  have a1 : PAf hd wt us mj 2 1 = 0 := rfl
  have a2 : PAf hd wt us mj 2 2 = 0 := rfl
  have a3 : PAf hd wt us mj 2 3 = 0 := rfl
  have a4 : PAf hd wt us mj 2 4 = 1 := rfl
  have a5 : PAf hd wt us mj 2 5 = 0 := rfl
  have a6 : PAf hd wt us mj 2 6 = 0 := rfl
  have a7 : PAf hd wt us mj 2 7 = 0 := rfl
  have a8 : PAf hd wt us mj 2 8 = 1 := rfl
  have c0 : GOf hd wt us mj 2 0 = GB hd wt us (mj 0) (mj 1) 4 := rfl
  rw [h0, h1] at c0
  have c1 : GOf hd wt us mj 2 1 = 0 := rfl
  have c2 : GOf hd wt us mj 2 2 = 0 := rfl
  have eD : mD hd wt us mj 2 = D3 (PAf hd wt us mj 2) := rfl
  unfold D3 at eD
  rw [a0, a1, a2, a3, a4, a5, a6, a7, a8] at eD
  have eP0 : mP hd wt us mj 2 0 = D3 (RC (PAf hd wt us mj 2) (GOf hd wt us mj 2) 0) := rfl
  have eQ0 : D3 (RC (PAf hd wt us mj 2) (GOf hd wt us mj 2) 0) = (GOf hd wt us mj 2 0) * ((PAf hd wt us mj 2 4) * (PAf hd wt us mj 2 8) - (PAf hd wt us mj 2 5) * (PAf hd wt us mj 2 7)) + (PAf hd wt us mj 2 1) * ((PAf hd wt us mj 2 5) * (GOf hd wt us mj 2 2) - (GOf hd wt us mj 2 1) * (PAf hd wt us mj 2 8)) + (PAf hd wt us mj 2 2) * ((GOf hd wt us mj 2 1) * (PAf hd wt us mj 2 7) - (PAf hd wt us mj 2 4) * (GOf hd wt us mj 2 2)) := rfl
  rw [eQ0, a1, a2, a4, a5, a7, a8, c0, c1, c2] at eP0
  have eP1 : mP hd wt us mj 2 1 = D3 (RC (PAf hd wt us mj 2) (GOf hd wt us mj 2) 1) := rfl
  have eQ1 : D3 (RC (PAf hd wt us mj 2) (GOf hd wt us mj 2) 1) = (PAf hd wt us mj 2 0) * ((GOf hd wt us mj 2 1) * (PAf hd wt us mj 2 8) - (PAf hd wt us mj 2 5) * (GOf hd wt us mj 2 2)) + (GOf hd wt us mj 2 0) * ((PAf hd wt us mj 2 5) * (PAf hd wt us mj 2 6) - (PAf hd wt us mj 2 3) * (PAf hd wt us mj 2 8)) + (PAf hd wt us mj 2 2) * ((PAf hd wt us mj 2 3) * (GOf hd wt us mj 2 2) - (GOf hd wt us mj 2 1) * (PAf hd wt us mj 2 6)) := rfl
  rw [eQ1, a0, a2, a3, a5, a6, a8, c0, c1, c2] at eP1
  have eP2 : mP hd wt us mj 2 2 = D3 (RC (PAf hd wt us mj 2) (GOf hd wt us mj 2) 2) := rfl
  have eQ2 : D3 (RC (PAf hd wt us mj 2) (GOf hd wt us mj 2) 2) = (PAf hd wt us mj 2 0) * ((PAf hd wt us mj 2 4) * (GOf hd wt us mj 2 2) - (GOf hd wt us mj 2 1) * (PAf hd wt us mj 2 7)) + (PAf hd wt us mj 2 1) * ((GOf hd wt us mj 2 1) * (PAf hd wt us mj 2 6) - (PAf hd wt us mj 2 3) * (GOf hd wt us mj 2 2)) + (GOf hd wt us mj 2 0) * ((PAf hd wt us mj 2 3) * (PAf hd wt us mj 2 7) - (PAf hd wt us mj 2 4) * (PAf hd wt us mj 2 6)) := rfl
  rw [eQ2, a0, a1, a3, a4, a6, a7, c0, c1, c2] at eP2
  have eB : bX (nI 12) 2 (GB hd wt us 2) = D3 (MXf (nI 12) 2 (GB hd wt us 2)) := det3_D3
  unfold D3 at eB
  rw [x0, x1, x2, x3, x4, x5, x6, x7, x8] at eB
  have eX0 : pX (nI 12) 2 (GB hd wt us 2) 0 = _ := PT_0
  rw [x3, x4, x5, x6, x7, x8, y0, y1, y2] at eX0
  have eX1 : pX (nI 12) 2 (GB hd wt us 2) 1 = _ := PT_1
  rw [x0, x1, x2, x6, x7, x8, y0, y1, y2] at eX1
  have eX2 : pX (nI 12) 2 (GB hd wt us 2) 2 = _ := PT_2
  rw [x0, x1, x2, x3, x4, x5, y0, y1, y2] at eX2
  have kB : bX (nI 12) 2 (GB hd wt us 2) = mD hd wt us mj 2 := by rw [eB, eD] <;> grind
  have kX0 : pX (nI 12) 2 (GB hd wt us 2) 0 = 0 := by rw [eX0]; grind
  have kX1 : pX (nI 12) 2 (GB hd wt us 2) 1 = 0 := by rw [eX1]; grind
  have kX2 : pX (nI 12) 2 (GB hd wt us 2) 2 = mP hd wt us mj 2 0 := by rw [eX2, eP0]; grind
  have kF : fX (nI 12) 2 (GB hd wt us 2) = mF hd wt us mj 2 := by
    unfold fX mF
    rw [kB, kX0, kX1, kX2, w0, w1, w2, c0, c1, c2, h0]
    grind
  refine ⟨kB, kF, fun sh => ?_⟩
  have eS : mS hd wt us mj 2 sh = vp_updL (vp_updL sh (mj 1) (mP hd wt us mj 2 0)) (mj 0) (mD hd wt us mj 2 - mP hd wt us mj 2 0) := rfl
  rw [eS, h0, h1]
  have v0 : XP (nI 12) 2 (GB hd wt us 2) 0 = pX (nI 12) 2 (GB hd wt us 2) 0 := rfl
  have v1 : XP (nI 12) 2 (GB hd wt us 2) 1 = pX (nI 12) 2 (GB hd wt us 2) 1 := rfl
  have v2 : XP (nI 12) 2 (GB hd wt us 2) 2 = bX (nI 12) 2 (GB hd wt us 2) - pX (nI 12) 2 (GB hd wt us 2) 0 - pX (nI 12) 2 (GB hd wt us 2) 1 - pX (nI 12) 2 (GB hd wt us 2) 2 := rfl
  have v3 : XP (nI 12) 2 (GB hd wt us 2) 3 = pX (nI 12) 2 (GB hd wt us 2) 2 := rfl
  rw [v0, v1, v2, v3, kB, kX0, kX1, kX2]
  refine ⟨⟨rfl, rfl⟩, ⟨rfl, rfl⟩, ?_, rfl⟩
  refine (upL_at (f := (vp_updL sh 3 (mP hd wt us mj 2 0))) (k := 2)).trans ?_
  grind
theorem set_13 {hd wt : Nat → Int32} {us : Int32} {mj : Nat → Nat} (h0 : mj 0 = 0) (h1 : mj 1 = 2) (h2 : mj 2 = 3) : bX (nI 13) 0 (GB hd wt us 0) = mD hd wt us mj 3 ∧ fX (nI 13) 0 (GB hd wt us 0) = mF hd wt us mj 3 ∧ ∀ sh : Nat → Int64, (mS hd wt us mj 3 sh 0 = XP (nI 13) 0 (GB hd wt us 0) 0) ∧ (mS hd wt us mj 3 sh 1 = sh 1 ∧ XP (nI 13) 0 (GB hd wt us 0) 1 = 0) ∧ (mS hd wt us mj 3 sh 2 = XP (nI 13) 0 (GB hd wt us 0) 2) ∧ (mS hd wt us mj 3 sh 3 = XP (nI 13) 0 (GB hd wt us 0) 3) := by
  have x0 : MXf (nI 13) 0 (GB hd wt us 0) 0 = 1 := rfl
  have x1 : MXf (nI 13) 0 (GB hd wt us 0) 1 = 0 := rfl
  have x2 : MXf (nI 13) 0 (GB hd wt us 0) 2 = 0 := rfl
  have x3 : MXf (nI 13) 0 (GB hd wt us 0) 3 = 0 := rfl
  have x4 : MXf (nI 13) 0 (GB hd wt us 0) 4 = GB hd wt us 0 2 2 := rfl
  have x5 : MXf (nI 13) 0 (GB hd wt us 0) 5 = GB hd wt us 0 2 3 := rfl
  have x6 : MXf (nI 13) 0 (GB hd wt us 0) 6 = 0 := rfl
  have x7 : MXf (nI 13) 0 (GB hd wt us 0) 7 = GB hd wt us 0 3 2 := rfl
  have x8 : MXf (nI 13) 0 (GB hd wt us 0) 8 = GB hd wt us 0 3 3 := rfl
  have y0 : SXf (nI 13) 0 (GB hd wt us 0) 0 = 0 := rfl
  have w0 : SE (nI 13) 0 (GB hd wt us 0) 0 = 0 := rfl
  have y1 : SXf (nI 13) 0 (GB hd wt us 0) 1 = GB hd wt us 0 2 4 := rfl
  have w1 : SE (nI 13) 0 (GB hd wt us 0) 1 = GB hd wt us 0 2 4 := rfl
  have y2 : SXf (nI 13) 0 (GB hd wt us 0) 2 = GB hd wt us 0 3 4 := rfl
  have w2 : SE (nI 13) 0 (GB hd wt us 0) 2 = GB hd wt us 0 3 4 := rfl
  have a0 : PAf hd wt us mj 3 0 = GB hd wt us (mj 0) (mj 1) (mj 1) := rfl
  rw [h0, h1] at a0
  have a1 : PAf hd wt us mj 3 1 = GB hd wt us (mj 0) (mj 1) (mj 2) := rfl
  rw [h0, h1, h2] at a1
  have a2 : PAf hd wt us mj 3 2 = 0 := rfl
  have a3 : PAf hd wt us mj 3 3 = GB hd wt us (mj 0) (mj 2) (mj 1) := rfl
  rw [h0, h2, h1] at a3
  have a4 : PAf hd wt us mj 3 4 = GB hd wt us (mj 0) (mj 2) (mj 2) := rfl
  rw [h0, h2] at a4
  have a5 : PAf hd wt us mj 3 5 = 0 := rfl
  have a6 : PAf hd wt us mj 3 6 = 0 := rfl
  have a7 : PAf hd wt us mj 3 7 = 0 := rfl
  have a8 : PAf hd wt us mj 3 8 = 1 := rfl
  have c0 : GOf hd wt us mj 3 0 = GB hd wt us (mj 0) (mj 1) 4 := rfl
  rw [h0, h1] at c0
  have c1 : GOf hd wt us mj 3 1 = GB hd wt us (mj 0) (mj 2) 4 := rfl
  rw [h0, h2] at c1
  have c2 : GOf hd wt us mj 3 2 = 0 := rfl
  have s23 : GB hd wt us 0 3 2 = GB hd wt us 0 2 3 := GB_symm
  have eD : mD hd wt us mj 3 = D3 (PAf hd wt us mj 3) := rfl
  unfold D3 at eD
  rw [a0, a1, a2, a3, a4, a5, a6, a7, a8] at eD
  have eP0 : mP hd wt us mj 3 0 = D3 (RC (PAf hd wt us mj 3) (GOf hd wt us mj 3) 0) := rfl
  have eQ0 : D3 (RC (PAf hd wt us mj 3) (GOf hd wt us mj 3) 0) = (GOf hd wt us mj 3 0) * ((PAf hd wt us mj 3 4) * (PAf hd wt us mj 3 8) - (PAf hd wt us mj 3 5) * (PAf hd wt us mj 3 7)) + (PAf hd wt us mj 3 1) * ((PAf hd wt us mj 3 5) * (GOf hd wt us mj 3 2) - (GOf hd wt us mj 3 1) * (PAf hd wt us mj 3 8)) + (PAf hd wt us mj 3 2) * ((GOf hd wt us mj 3 1) * (PAf hd wt us mj 3 7) - (PAf hd wt us mj 3 4) * (GOf hd wt us mj 3 2)) := rfl
  rw [eQ0, a1, a2, a4, a5, a7, a8, c0, c1, c2] at eP0
  have eP1 : mP hd wt us mj 3 1 = D3 (RC (PAf hd wt us mj 3) (GOf hd wt us mj 3) 1) := rfl
  have eQ1 : D3 (RC (PAf hd wt us mj 3) (GOf hd wt us mj 3) 1) = (PAf hd wt us mj 3 0) * ((GOf hd wt us mj 3 1) * (PAf hd wt us mj 3 8) - (PAf hd wt us mj 3 5) * (GOf hd wt us mj 3 2)) + (GOf hd wt us mj 3 0) * ((PAf hd wt us mj 3 5) * (PAf hd wt us mj 3 6) - (PAf hd wt us mj 3 3) * (PAf hd wt us mj 3 8)) + (PAf hd wt us mj 3 2) * ((PAf hd wt us mj 3 3) * (GOf hd wt us mj 3 2) - (GOf hd wt us mj 3 1) * (PAf hd wt us mj 3 6)) := rfl
  rw [eQ1, a0, a2, a3, a5, a6, a8, c0, c1, c2] at eP1
  have eP2 : mP hd wt us mj 3 2 = D3 (RC (PAf hd wt us mj 3) (GOf hd wt us mj 3) 2) := rfl
  have eQ2 : D3 (RC (PAf hd wt us mj 3) (GOf hd wt us mj 3) 2) = (PAf hd wt us mj 3 0) * ((PAf hd wt us mj 3 4) * (GOf hd wt us mj 3 2) - (GOf hd wt us mj 3 1) * (PAf hd wt us mj 3 7)) + (PAf hd wt us mj 3 1) * ((GOf hd wt us mj 3 1) * (PAf hd wt us mj 3 6) - (PAf hd wt us mj 3 3) * (GOf hd wt us mj 3 2)) + (GOf hd wt us mj 3 0) * ((PAf hd wt us mj 3 3) * (PAf hd wt us mj 3 7) - (PAf hd wt us mj 3 4) * (PAf hd wt us mj 3 6)) := rfl
  rw [eQ2, a0, a1, a3, a4, a6, a7, c0, c1, c2] at eP2
  have eB : bX (nI 13) 0 (GB hd wt us 0) = D3 (MXf (nI 13) 0 (GB hd wt us 0)) := det3_D3
  unfold D3 at eB
  rw [x0, x1, x2, x3, x4, x5, x6, x7, x8] at eB
  have eX0 : pX (nI 13) 0 (GB hd wt us 0) 0 = _ := PT_0
  rw [x3, x4, x5, x6, x7, x8, y0, y1, y2] at eX0
  have eX1 : pX (nI 13) 0 (GB hd wt us 0) 1 = _ := PT_1
  rw [x0, x1, x2, x6, x7, x8, y0, y1, y2] at eX1
  have eX2 : pX (nI 13) 0 (GB hd wt us 0) 2 = _ := PT_2
  rw [x0, x1, x2, x3, x4, x5, y0, y1, y2] at eX2
  simp only [s23] at eD eB eP0 eP1 eP2 eX0 eX1 eX2
  have kB : bX (nI 13) 0 (GB hd wt us 0) = mD hd wt us mj 3 := by rw [eB, eD] <;> grind
  have kX0 : pX (nI 13) 0 (GB hd wt us 0) 0 = 0 := by rw [eX0]; grind
  have kX1 : pX (nI 13) 0 (GB hd wt us 0) 1 = mP hd wt us mj 3 0 := by rw [eX1, eP0]; grind
  have kX2 : pX (nI 13) 0 (GB hd wt us 0) 2 = mP hd wt us mj 3 1 := by rw [eX2, eP1]; grind
  have kF : fX (nI 13) 0 (GB hd wt us 0) = mF hd wt us mj 3 := by
    unfold fX mF
    rw [kB, kX0, kX1, kX2, w0, w1, w2, c0, c1, c2, h0]
    grind
  refine ⟨kB, kF, fun sh => ?_⟩
  have eS : mS hd wt us mj 3 sh = vp_updL (vp_updL (vp_updL sh (mj 1) (mP hd wt us mj 3 0)) (mj 2) (mP hd wt us mj 3 1)) (mj 0) (mD hd wt us mj 3 - mP hd wt us mj 3 0 - mP hd wt us mj 3 1) := rfl
  rw [eS, h0, h1, h2]
  have v0 : XP (nI 13) 0 (GB hd wt us 0) 0 = bX (nI 13) 0 (GB hd wt us 0) - pX (nI 13) 0 (GB hd wt us 0) 0 - pX (nI 13) 0 (GB hd wt us 0) 1 - pX (nI 13) 0 (GB hd wt us 0) 2 := rfl
  have v1 : XP (nI 13) 0 (GB hd wt us 0) 1 = pX (nI 13) 0 (GB hd wt us 0) 0 := rfl
  have v2 : XP (nI 13) 0 (GB hd wt us 0) 2 = pX (nI 13) 0 (GB hd wt us 0) 1 := rfl
  have v3 : XP (nI 13) 0 (GB hd wt us 0) 3 = pX (nI 13) 0 (GB hd wt us 0) 2 := rfl
  rw [v0, v1, v2, v3, kB, kX0, kX1, kX2]
  refine ⟨?_, ⟨rfl, rfl⟩, rfl, rfl⟩
  refine (upL_at (f := (vp_updL (vp_updL sh 2 (mP hd wt us mj 3 0)) 3 (mP hd wt us mj 3 1))) (k := 0)).trans ?_
  grind
theorem set_14 {hd wt : Nat → Int32} {us : Int32} {mj : Nat → Nat} (h0 : mj 0 = 1) (h1 : mj 1 = 2) (h2 : mj 2 = 3) : bX (nI 14) 1 (GB hd wt us 1) = mD hd wt us mj 3 ∧ fX (nI 14) 1 (GB hd wt us 1) = mF hd wt us mj 3 ∧ ∀ sh : Nat → Int64, (mS hd wt us mj 3 sh 0 = sh 0 ∧ XP (nI 14) 1 (GB hd wt us 1) 0 = 0) ∧ (mS hd wt us mj 3 sh 1 = XP (nI 14) 1 (GB hd wt us 1) 1) ∧ (mS hd wt us mj 3 sh 2 = XP (nI 14) 1 (GB hd wt us 1) 2) ∧ (mS hd wt us mj 3 sh 3 = XP (nI 14) 1 (GB hd wt us 1) 3) := by
  have x0 : MXf (nI 14) 1 (GB hd wt us 1) 0 = 1 := rfl
  have x1 : MXf (nI 14) 1 (GB hd wt us 1) 1 = 0 := rfl
  have x2 : MXf (nI 14) 1 (GB hd wt us 1) 2 = 0 := rfl
  have x3 : MXf (nI 14) 1 (GB hd wt us 1) 3 = 0 := rfl
  have x4 : MXf (nI 14) 1 (GB hd wt us 1) 4 = GB hd wt us 1 2 2 := rfl
  have x5 : MXf (nI 14) 1 (GB hd wt us 1) 5 = GB hd wt us 1 2 3 := rfl
  have x6 : MXf (nI 14) 1 (GB hd wt us 1) 6 = 0 := rfl
  have x7 : MXf (nI 14) 1 (GB hd wt us 1) 7 = GB hd wt us 1 3 2 := rfl
  have x8 : MXf (nI 14) 1 (GB hd wt us 1) 8 = GB hd wt us 1 3 3 := rfl
  have y0 : SXf (nI 14) 1 (GB hd wt us 1) 0 = 0 := rfl
  have w0 : SE (nI 14) 1 (GB hd wt us 1) 0 = 0 := rfl
  have y1 : SXf (nI 14) 1 (GB hd wt us 1) 1 = GB hd wt us 1 2 4 := rfl
  have w1 : SE (nI 14) 1 (GB hd wt us 1) 1 = GB hd wt us 1 2 4 := rfl
  have y2 : SXf (nI 14) 1 (GB hd wt us 1) 2 = GB hd wt us 1 3 4 := rfl
  have w2 : SE (nI 14) 1 (GB hd wt us 1) 2 = GB hd wt us 1 3 4 := rfl
  have a0 : PAf hd wt us mj 3 0 = GB hd wt us (mj 0) (mj 1) (mj 1) := rfl
  rw [h0, h1] at a0
  have a1 : PAf hd wt us mj 3 1 = GB hd wt us (mj 0) (mj 1) (mj 2) := rfl
  rw [h0, h1, h2] at a1
  have a2 : PAf hd wt us mj 3 2 = 0 := rfl
  have a3 : PAf hd wt us mj 3 3 = GB hd wt us (mj 0) (mj 2) (mj 1) := rfl
  rw [h0, h2, h1] at a3
  have a4 : PAf hd wt us mj 3 4 = GB hd wt us (mj 0) (mj 2) (mj 2) := rfl
  rw [h0, h2] at a4
  have a5 : PAf hd wt us mj 3 5 = 0 := rfl
  have a6 : PAf hd wt us mj 3 6 = 0 := rfl
  have a7 : PAf hd wt us mj 3 7 = 0 := rfl
  have a8 : PAf hd wt us mj 3 8 = 1 := rfl
  have c0 : GOf hd wt us mj 3 0 = GB hd wt us (mj 0) (mj 1) 4 := rfl
  rw [h0, h1] at c0
  have c1 : GOf hd wt us mj 3 1 = GB hd wt us (mj 0) (mj 2) 4 := rfl
  rw [h0, h2] at c1
  have c2 : GOf hd wt us mj 3 2 = 0 := rfl
  have s23 : GB hd wt us 1 3 2 = GB hd wt us 1 2 3 := GB_symm
  have eD : mD hd wt us mj 3 = D3 (PAf hd wt us mj 3) := rfl
  unfold D3 at eD
  rw [a0, a1, a2, a3, a4, a5, a6, a7, a8] at eD
  have eP0 : mP hd wt us mj 3 0 = D3 (RC (PAf hd wt us mj 3) (GOf hd wt us mj 3) 0) := rfl
  have eQ0 : D3 (RC (PAf hd wt us mj 3) (GOf hd wt us mj 3) 0) = (GOf hd wt us mj 3 0) * ((PAf hd wt us mj 3 4) * (PAf hd wt us mj 3 8) - (PAf hd wt us mj 3 5) * (PAf hd wt us mj 3 7)) + (PAf hd wt us mj 3 1) * ((PAf hd wt us mj 3 5) * (GOf hd wt us mj 3 2) - (GOf hd wt us mj 3 1) * (PAf hd wt us mj 3 8)) + (PAf hd wt us mj 3 2) * ((GOf hd wt us mj 3 1) * (PAf hd wt us mj 3 7) - (PAf hd wt us mj 3 4) * (GOf hd wt us mj 3 2)) := rfl
  rw [eQ0, a1, a2, a4, a5, a7, a8, c0, c1, c2] at eP0
  have eP1 : mP hd wt us mj 3 1 = D3 (RC (PAf hd wt us mj 3) (GOf hd wt us mj 3) 1) := rfl
  have eQ1 : D3 (RC (PAf hd wt us mj 3) (GOf hd wt us mj 3) 1) = (PAf hd wt us mj 3 0) * ((GOf hd wt us mj 3 1) * (PAf hd wt us mj 3 8) - (PAf hd wt us mj 3 5) * (GOf hd wt us mj 3 2)) + (GOf hd wt us mj 3 0) * ((PAf hd wt us mj 3 5) * (PAf hd wt us mj 3 6) - (PAf hd wt us mj 3 3) * (PAf hd wt us mj 3 8)) + (PAf hd wt us mj 3 2) * ((PAf hd wt us mj 3 3) * (GOf hd wt us mj 3 2) - (GOf hd wt us mj 3 1) * (PAf hd wt us mj 3 6)) := rfl
  rw [eQ1, a0, a2, a3, a5, a6, a8, c0, c1, c2] at eP1
  have eP2 : mP hd wt us mj 3 2 = D3 (RC (PAf hd wt us mj 3) (GOf hd wt us mj 3) 2) := rfl
  have eQ2 : D3 (RC (PAf hd wt us mj 3) (GOf hd wt us mj 3) 2) = (PAf hd wt us mj 3 0) * ((PAf hd wt us mj 3 4) * (GOf hd wt us mj 3 2) - (GOf hd wt us mj 3 1) * (PAf hd wt us mj 3 7)) + (PAf hd wt us mj 3 1) * ((GOf hd wt us mj 3 1) * (PAf hd wt us mj 3 6) - (PAf hd wt us mj 3 3) * (GOf hd wt us mj 3 2)) + (GOf hd wt us mj 3 0) * ((PAf hd wt us mj 3 3) * (PAf hd wt us mj 3 7) - (PAf hd wt us mj 3 4) * (PAf hd wt us mj 3 6)) := rfl
  rw [eQ2, a0, a1, a3, a4, a6, a7, c0, c1, c2] at eP2
  have eB : bX (nI 14) 1 (GB hd wt us 1) = D3 (MXf (nI 14) 1 (GB hd wt us 1)) := det3_D3
  unfold D3 at eB
  rw [x0, x1, x2, x3, x4, x5, x6, x7, x8] at eB
  have eX0 : pX (nI 14) 1 (GB hd wt us 1) 0 = _ := PT_0
  rw [x3, x4, x5, x6, x7, x8, y0, y1, y2] at eX0
  have eX1 : pX (nI 14) 1 (GB hd wt us 1) 1 = _ := PT_1
  rw [x0, x1, x2, x6, x7, x8, y0, y1, y2] at eX1
  have eX2 : pX (nI 14) 1 (GB hd wt us 1) 2 = _ := PT_2
  rw [x0, x1, x2, x3, x4, x5, y0, y1, y2] at eX2
  simp only [s23] at eD eB eP0 eP1 eP2 eX0 eX1 eX2
  have kB : bX (nI 14) 1 (GB hd wt us 1) = mD hd wt us mj 3 := by rw [eB, eD] <;> grind
  have kX0 : pX (nI 14) 1 (GB hd wt us 1) 0 = 0 := by rw [eX0]; grind
  have kX1 : pX (nI 14) 1 (GB hd wt us 1) 1 = mP hd wt us mj 3 0 := by rw [eX1, eP0]; grind
  have kX2 : pX (nI 14) 1 (GB hd wt us 1) 2 = mP hd wt us mj 3 1 := by rw [eX2, eP1]; grind
  have kF : fX (nI 14) 1 (GB hd wt us 1) = mF hd wt us mj 3 := by
    unfold fX mF
    rw [kB, kX0, kX1, kX2, w0, w1, w2, c0, c1, c2, h0]
    grind
  refine ⟨kB, kF, fun sh => ?_⟩
  have eS : mS hd wt us mj 3 sh = vp_updL (vp_updL (vp_updL sh (mj 1) (mP hd wt us mj 3 0)) (mj 2) (mP hd wt us mj 3 1)) (mj 0) (mD hd wt us mj 3 - mP hd wt us mj 3 0 - mP hd wt us mj 3 1) := rfl
  rw [eS, h0, h1, h2]
  have v0 : XP (nI 14) 1 (GB hd wt us 1) 0 = pX (nI 14) 1 (GB hd wt us 1) 0 := rfl
  have v1 : XP (nI 14) 1 (GB hd wt us 1) 1 = bX (nI 14) 1 (GB hd wt us 1) - pX (nI 14) 1 (GB hd wt us 1) 0 - pX (nI 14) 1 (GB hd wt us 1) 1 - pX (nI 14) 1 (GB hd wt us 1) 2 := rfl
  have v2 : XP (nI 14) 1 (GB hd wt us 1) 2 = pX (nI 14) 1 (GB hd wt us 1) 1 := rfl
  have v3 : XP (nI 14) 1 (GB hd wt us 1) 3 = pX (nI 14) 1 (GB hd wt us 1) 2 := rfl
  rw [v0, v1, v2, v3, kB, kX0, kX1, kX2]
  refine ⟨⟨rfl, rfl⟩, ?_, rfl, rfl⟩
  refine (upL_at (f := (vp_updL (vp_updL sh 2 (mP hd wt us mj 3 0)) 3 (mP hd wt us mj 3 1))) (k := 1)).trans ?_
  grind
theorem set_15 {hd wt : Nat → Int32} {us : Int32} {mj : Nat → Nat} (h0 : mj 0 = 0) (h1 : mj 1 = 1) (h2 : mj 2 = 2) (h3 : mj 3 = 3) : bX (nI 15) 0 (GB hd wt us 0) = mD hd wt us mj 4 ∧ fX (nI 15) 0 (GB hd wt us 0) = mF hd wt us mj 4 ∧ ∀ sh : Nat → Int64, (mS hd wt us mj 4 sh 0 = XP (nI 15) 0 (GB hd wt us 0) 0) ∧ (mS hd wt us mj 4 sh 1 = XP (nI 15) 0 (GB hd wt us 0) 1) ∧ (mS hd wt us mj 4 sh 2 = XP (nI 15) 0 (GB hd wt us 0) 2) ∧ (mS hd wt us mj 4 sh 3 = XP (nI 15) 0 (GB hd wt us 0) 3) := by
  have x0 : MXf (nI 15) 0 (GB hd wt us 0) 0 = GB hd wt us 0 1 1 := rfl
  have x1 : MXf (nI 15) 0 (GB hd wt us 0) 1 = GB hd wt us 0 1 2 := rfl
  have x2 : MXf (nI 15) 0 (GB hd wt us 0) 2 = GB hd wt us 0 1 3 := rfl
  have x3 : MXf (nI 15) 0 (GB hd wt us 0) 3 = GB hd wt us 0 2 1 := rfl
  have x4 : MXf (nI 15) 0 (GB hd wt us 0) 4 = GB hd wt us 0 2 2 := rfl
  have x5 : MXf (nI 15) 0 (GB hd wt us 0) 5 = GB hd wt us 0 2 3 := rfl
  have x6 : MXf (nI 15) 0 (GB hd wt us 0) 6 = GB hd wt us 0 3 1 := rfl
  have x7 : MXf (nI 15) 0 (GB hd wt us 0) 7 = GB hd wt us 0 3 2 := rfl
  have x8 : MXf (nI 15) 0 (GB hd wt us 0) 8 = GB hd wt us 0 3 3 := rfl
  have y0 : SXf (nI 15) 0 (GB hd wt us 0) 0 = GB hd wt us 0 1 4 := rfl
  have w0 : SE (nI 15) 0 (GB hd wt us 0) 0 = GB hd wt us 0 1 4 := rfl
  have y1 : SXf (nI 15) 0 (GB hd wt us 0) 1 = GB hd wt us 0 2 4 := rfl
  have w1 : SE (nI 15) 0 (GB hd wt us 0) 1 = GB hd wt us 0 2 4 := rfl
  have y2 : SXf (nI 15) 0 (GB hd wt us 0) 2 = GB hd wt us 0 3 4 := rfl
  have w2 : SE (nI 15) 0 (GB hd wt us 0) 2 = GB hd wt us 0 3 4 := rfl
  have a0 : PAf hd wt us mj 4 0 = GB hd wt us (mj 0) (mj 1) (mj 1) := rfl
  rw [h0, h1] at a0
  have a1 : PAf hd wt us mj 4 1 = GB hd wt us (mj 0) (mj 1) (mj 2) := rfl
  rw [h0, h1, h2] at a1
  have a2 : PAf hd wt us mj 4 2 = GB hd wt us (mj 0) (mj 1) (mj 3) := rfl
  rw [h0, h1, h3] at a2
  have a3 : PAf hd wt us mj 4 3 = GB hd wt us (mj 0) (mj 2) (mj 1) := rfl
  rw [h0, h2, h1] at a3
  have a4 : PAf hd wt us mj 4 4 = GB hd wt us (mj 0) (mj 2) (mj 2) := rfl
  rw [h0, h2] at a4
  have a5 : PAf hd wt us mj 4 5 = GB hd wt us (mj 0) (mj 2) (mj 3) := rfl
  rw [h0, h2, h3] at a5
  have a6 : PAf hd wt us mj 4 6 = GB hd wt us (mj 0) (mj 3) (mj 1) := rfl
  rw [h0, h3, h1] at a6
  have a7 : PAf hd wt us mj 4 7 = GB hd wt us (mj 0) (mj 3) (mj 2) := rfl
  rw [h0, h3, h2] at a7
  have a8 : PAf hd wt us mj 4 8 = GB hd wt us (mj 0) (mj 3) (mj 3) := rfl
  rw [h0, h3] at a8
  have c0 : GOf hd wt us mj 4 0 = GB hd wt us (mj 0) (mj 1) 4 := rfl
  rw [h0, h1] at c0
  have c1 : GOf hd wt us mj 4 1 = GB hd wt us (mj 0) (mj 2) 4 := rfl
  rw [h0, h2] at c1
  have c2 : GOf hd wt us mj 4 2 = GB hd wt us (mj 0) (mj 3) 4 := rfl
  rw [h0, h3] at c2
  have s12 : GB hd wt us 0 2 1 = GB hd wt us 0 1 2 := GB_symm
  have s13 : GB hd wt us 0 3 1 = GB hd wt us 0 1 3 := GB_symm
  have s23 : GB hd wt us 0 3 2 = GB hd wt us 0 2 3 := GB_symm
  have eD : mD hd wt us mj 4 = D3 (PAf hd wt us mj 4) := rfl
  unfold D3 at eD
  rw [a0, a1, a2, a3, a4, a5, a6, a7, a8] at eD
  have eP0 : mP hd wt us mj 4 0 = D3 (RC (PAf hd wt us mj 4) (GOf hd wt us mj 4) 0) := rfl
  have eQ0 : D3 (RC (PAf hd wt us mj 4) (GOf hd wt us mj 4) 0) = (GOf hd wt us mj 4 0) * ((PAf hd wt us mj 4 4) * (PAf hd wt us mj 4 8) - (PAf hd wt us mj 4 5) * (PAf hd wt us mj 4 7)) + (PAf hd wt us mj 4 1) * ((PAf hd wt us mj 4 5) * (GOf hd wt us mj 4 2) - (GOf hd wt us mj 4 1) * (PAf hd wt us mj 4 8)) + (PAf hd wt us mj 4 2) * ((GOf hd wt us mj 4 1) * (PAf hd wt us mj 4 7) - (PAf hd wt us mj 4 4) * (GOf hd wt us mj 4 2)) := rfl
  rw [eQ0, a1, a2, a4, a5, a7, a8, c0, c1, c2] at eP0
  have eP1 : mP hd wt us mj 4 1 = D3 (RC (PAf hd wt us mj 4) (GOf hd wt us mj 4) 1) := rfl
  have eQ1 : D3 (RC (PAf hd wt us mj 4) (GOf hd wt us mj 4) 1) = (PAf hd wt us mj 4 0) * ((GOf hd wt us mj 4 1) * (PAf hd wt us mj 4 8) - (PAf hd wt us mj 4 5) * (GOf hd wt us mj 4 2)) + (GOf hd wt us mj 4 0) * ((PAf hd wt us mj 4 5) * (PAf hd wt us mj 4 6) - (PAf hd wt us mj 4 3) * (PAf hd wt us mj 4 8)) + (PAf hd wt us mj 4 2) * ((PAf hd wt us mj 4 3) * (GOf hd wt us mj 4 2) - (GOf hd wt us mj 4 1) * (PAf hd wt us mj 4 6)) := rfl
  rw [eQ1, a0, a2, a3, a5, a6, a8, c0, c1, c2] at eP1
  have eP2 : mP hd wt us mj 4 2 = D3 (RC (PAf hd wt us mj 4) (GOf hd wt us mj 4) 2) := rfl
  have eQ2 : D3 (RC (PAf hd wt us mj 4) (GOf hd wt us mj 4) 2) = (PAf hd wt us mj 4 0) * ((PAf hd wt us mj 4 4) * (GOf hd wt us mj 4 2) - (GOf hd wt us mj 4 1) * (PAf hd wt us mj 4 7)) + (PAf hd wt us mj 4 1) * ((GOf hd wt us mj 4 1) * (PAf hd wt us mj 4 6) - (PAf hd wt us mj 4 3) * (GOf hd wt us mj 4 2)) + (GOf hd wt us mj 4 0) * ((PAf hd wt us mj 4 3) * (PAf hd wt us mj 4 7) - (PAf hd wt us mj 4 4) * (PAf hd wt us mj 4 6)) := rfl
  rw [eQ2, a0, a1, a3, a4, a6, a7, c0, c1, c2] at eP2
  have eB : bX (nI 15) 0 (GB hd wt us 0) = D3 (MXf (nI 15) 0 (GB hd wt us 0)) := det3_D3
  unfold D3 at eB
  rw [x0, x1, x2, x3, x4, x5, x6, x7, x8] at eB
  have eX0 : pX (nI 15) 0 (GB hd wt us 0) 0 = _ := PT_0
  rw [x3, x4, x5, x6, x7, x8, y0, y1, y2] at eX0
  have eX1 : pX (nI 15) 0 (GB hd wt us 0) 1 = _ := PT_1
  rw [x0, x1, x2, x6, x7, x8, y0, y1, y2] at eX1
  have eX2 : pX (nI 15) 0 (GB hd wt us 0) 2 = _ := PT_2
  rw [x0, x1, x2, x3, x4, x5, y0, y1, y2] at eX2
  simp only [s12, s13, s23] at eD eB eP0 eP1 eP2 eX0 eX1 eX2
  have kB : bX (nI 15) 0 (GB hd wt us 0) = mD hd wt us mj 4 := by rw [eB, eD] <;> grind
  have kX0 : pX (nI 15) 0 (GB hd wt us 0) 0 = mP hd wt us mj 4 0 := by rw [eX0, eP0]; grind
  have kX1 : pX (nI 15) 0 (GB hd wt us 0) 1 = mP hd wt us mj 4 1 := by rw [eX1, eP1]; grind
  have kX2 : pX (nI 15) 0 (GB hd wt us 0) 2 = mP hd wt us mj 4 2 := by rw [eX2, eP2]; grind
  have kF : fX (nI 15) 0 (GB hd wt us 0) = mF hd wt us mj 4 := by
    unfold fX mF
    rw [kB, kX0, kX1, kX2, w0, w1, w2, c0, c1, c2, h0]
    grind
  refine ⟨kB, kF, fun sh => ?_⟩
  have eS : mS hd wt us mj 4 sh = vp_updL (vp_updL (vp_updL (vp_updL sh (mj 1) (mP hd wt us mj 4 0)) (mj 2) (mP hd wt us mj 4 1)) (mj 3) (mP hd wt us mj 4 2)) (mj 0) (mD hd wt us mj 4 - mP hd wt us mj 4 0 - mP hd wt us mj 4 1 - mP hd wt us mj 4 2) := rfl
  rw [eS, h0, h1, h2, h3]
  have v0 : XP (nI 15) 0 (GB hd wt us 0) 0 = bX (nI 15) 0 (GB hd wt us 0) - pX (nI 15) 0 (GB hd wt us 0) 0 - pX (nI 15) 0 (GB hd wt us 0) 1 - pX (nI 15) 0 (GB hd wt us 0) 2 := rfl
  have v1 : XP (nI 15) 0 (GB hd wt us 0) 1 = pX (nI 15) 0 (GB hd wt us 0) 0 := rfl
  have v2 : XP (nI 15) 0 (GB hd wt us 0) 2 = pX (nI 15) 0 (GB hd wt us 0) 1 := rfl
  have v3 : XP (nI 15) 0 (GB hd wt us 0) 3 = pX (nI 15) 0 (GB hd wt us 0) 2 := rfl
  rw [v0, v1, v2, v3, kB, kX0, kX1, kX2]
  refine ⟨?_, rfl, rfl, rfl⟩
  refine (upL_at (f := (vp_updL (vp_updL (vp_updL sh 1 (mP hd wt us mj 4 0)) 2 (mP hd wt us mj 4 1)) 3 (mP hd wt us mj 4 2))) (k := 0)).trans ?_
  grind
