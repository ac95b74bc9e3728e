def mD (hd wt : Nat → Int32) (us : Int32) (mj : Nat → Nat) (k : Nat) : Int64 := D3 (PAf hd wt us mj k)
def mP (hd wt : Nat → Int32) (us : Int32) (mj : Nat → Nat) (k i : Nat) : Int64 := D3 (RC (PAf hd wt us mj k) (GOf hd wt us mj k) i)
def mF (hd wt : Nat → Int32) (us : Int32) (mj : Nat → Nat) (k : Nat) : Int64 := GB hd wt us (mj 0) 4 4 * mD hd wt us mj k - GOf hd wt us mj k 0 * mP hd wt us mj k 0 - GOf hd wt us mj k 1 * mP hd wt us mj k 1 - GOf hd wt us mj k 2 * mP hd wt us mj k 2
def mS (hd wt : Nat → Int32) (us : Int32) (mj : Nat → Nat) (k : Nat) (sh : Nat → Int64) : Nat → Int64 :=
  if k ≤ 1 then vp_updL sh (mj 0) (mD hd wt us mj k)
  else if k = 2 then vp_updL (vp_updL sh (mj 1) (mP hd wt us mj k 0)) (mj 0) (mD hd wt us mj k - mP hd wt us mj k 0)
  else if k = 3 then vp_updL (vp_updL (vp_updL sh (mj 1) (mP hd wt us mj k 0)) (mj 2) (mP hd wt us mj k 1)) (mj 0) (mD hd wt us mj k - mP hd wt us mj k 0 - mP hd wt us mj k 1)
  else vp_updL (vp_updL (vp_updL (vp_updL sh (mj 1) (mP hd wt us mj k 0)) (mj 2) (mP hd wt us mj k 1)) (mj 3) (mP hd wt us mj k 2)) (mj 0) (mD hd wt us mj k - mP hd wt us mj k 0 - mP hd wt us mj k 1 - mP hd wt us mj k 2)
theorem D3_3 {pa go : Nat → Int64} : D3 (RC pa go 3) = D3 pa := D3_congr (fun q hq => by unfold RC; rw [if_neg (by omega)])
theorem kN_le {s : Nat} : kN s ≤ 4 := List.length_filter_le _ _
theorem ls144_0 {y7 : Int32 × Int32 × (Nat → Int32) × (Nat → Int64)} {z : (Nat → Int64) × (Nat → Int64)} {mj : Nat → Nat} {a w : Int64} {sh : Nat → Int64}  (hk : y7.2.1 = nI 0) (hm : ∀ j : Nat, j < 4 → y7.2.2.1 j = nI (mj j)) (hmj : ∀ j : Nat, mj j < 4)  : (L_X7_laySet_144 y7 z 4 a 0 w sh).1 = a ∧ (L_X7_laySet_144 y7 z 4 a 0 w sh).2.2.1 = w ∧ (L_X7_laySet_144 y7 z 4 a 0 w sh).2.2.2 = sh := by
  rw [L_X7_laySet_144, if_pos (by rw [hk]; decide)]
  exact ⟨rfl, rfl, rfl⟩
theorem ls144_1 {y7 : Int32 × Int32 × (Nat → Int32) × (Nat → Int64)} {z : (Nat → Int64) × (Nat → Int64)} {mj : Nat → Nat} {a w : Int64} {sh : Nat → Int64}  (hk : y7.2.1 = nI 1) (hm : ∀ j : Nat, j < 4 → y7.2.2.1 j = nI (mj j)) (hmj : ∀ j : Nat, mj j < 4)  : (L_X7_laySet_144 y7 z 4 a 0 w sh).1 = a ∧ (L_X7_laySet_144 y7 z 4 a 0 w sh).2.2.1 = w ∧ (L_X7_laySet_144 y7 z 4 a 0 w sh).2.2.2 = sh := by
  rw [L_X7_laySet_144, if_pos (by rw [hk]; decide)]
  exact ⟨rfl, rfl, rfl⟩
theorem ls144_2 {y7 : Int32 × Int32 × (Nat → Int32) × (Nat → Int64)} {z : (Nat → Int64) × (Nat → Int64)} {mj : Nat → Nat} {a w : Int64} {sh : Nat → Int64} {P0 : Int64} (hk : y7.2.1 = nI 2) (hm : ∀ j : Nat, j < 4 → y7.2.2.1 j = nI (mj j)) (hmj : ∀ j : Nat, mj j < 4) (p0 : f_X7_determinant z.1 z.2 0 = P0) : (L_X7_laySet_144 y7 z 4 a 0 w sh).1 = a - P0 ∧ (L_X7_laySet_144 y7 z 4 a 0 w sh).2.2.1 = w - z.2 0 * P0 ∧ (L_X7_laySet_144 y7 z 4 a 0 w sh).2.2.2 = (vp_updL sh (mj 1) P0) := by
  rw [L_X7_laySet_144, if_neg (by rw [hk]; decide), L_X7_laySet_144, if_pos (by rw [hk]; decide), show (0 : Int32) + 1 = 1 by decide, show (0 : Int32).toNatClampNeg = 0 by decide, show (1 : Int32).toNatClampNeg = 1 by decide, hm 1 (by omega), p0, nI_clamp (Nat.lt_trans (hmj 1) (by decide))]
  exact ⟨rfl, rfl, rfl⟩
theorem ls144_3 {y7 : Int32 × Int32 × (Nat → Int32) × (Nat → Int64)} {z : (Nat → Int64) × (Nat → Int64)} {mj : Nat → Nat} {a w : Int64} {sh : Nat → Int64} {P0 P1 : Int64} (hk : y7.2.1 = nI 3) (hm : ∀ j : Nat, j < 4 → y7.2.2.1 j = nI (mj j)) (hmj : ∀ j : Nat, mj j < 4) (p0 : f_X7_determinant z.1 z.2 0 = P0) (p1 : f_X7_determinant z.1 z.2 1 = P1) : (L_X7_laySet_144 y7 z 4 a 0 w sh).1 = a - P0 - P1 ∧ (L_X7_laySet_144 y7 z 4 a 0 w sh).2.2.1 = w - z.2 0 * P0 - z.2 1 * P1 ∧ (L_X7_laySet_144 y7 z 4 a 0 w sh).2.2.2 = (vp_updL (vp_updL sh (mj 1) P0) (mj 2) P1) := by
  rw [L_X7_laySet_144, if_neg (by rw [hk]; decide), L_X7_laySet_144, if_neg (by rw [hk]; decide), L_X7_laySet_144, if_pos (by rw [hk]; decide), show (0 : Int32) + 1 = 1 by decide, show (1 : Int32) + 1 = 2 by decide, show (0 : Int32).toNatClampNeg = 0 by decide, show (1 : Int32).toNatClampNeg = 1 by decide, show (2 : Int32).toNatClampNeg = 2 by decide, hm 1 (by omega), hm 2 (by omega), p0, p1, nI_clamp (Nat.lt_trans (hmj 1) (by decide)), nI_clamp (Nat.lt_trans (hmj 2) (by decide))]
  exact ⟨rfl, rfl, rfl⟩
theorem ls144_4 {y7 : Int32 × Int32 × (Nat → Int32) × (Nat → Int64)} {z : (Nat → Int64) × (Nat → Int64)} {mj : Nat → Nat} {a w : Int64} {sh : Nat → Int64} {P0 P1 P2 : Int64} (hk : y7.2.1 = nI 4) (hm : ∀ j : Nat, j < 4 → y7.2.2.1 j = nI (mj j)) (hmj : ∀ j : Nat, mj j < 4) (p0 : f_X7_determinant z.1 z.2 0 = P0) (p1 : f_X7_determinant z.1 z.2 1 = P1) (p2 : f_X7_determinant z.1 z.2 2 = P2) : (L_X7_laySet_144 y7 z 4 a 0 w sh).1 = a - P0 - P1 - P2 ∧ (L_X7_laySet_144 y7 z 4 a 0 w sh).2.2.1 = w - z.2 0 * P0 - z.2 1 * P1 - z.2 2 * P2 ∧ (L_X7_laySet_144 y7 z 4 a 0 w sh).2.2.2 = (vp_updL (vp_updL (vp_updL sh (mj 1) P0) (mj 2) P1) (mj 3) P2) := by
  rw [L_X7_laySet_144, if_neg (by rw [hk]; decide), L_X7_laySet_144, if_neg (by rw [hk]; decide), L_X7_laySet_144, if_neg (by rw [hk]; decide), L_X7_laySet_144, if_pos (by rw [hk]; decide), show (0 : Int32) + 1 = 1 by decide, show (1 : Int32) + 1 = 2 by decide, show (2 : Int32) + 1 = 3 by decide, show (0 : Int32).toNatClampNeg = 0 by decide, show (1 : Int32).toNatClampNeg = 1 by decide, show (2 : Int32).toNatClampNeg = 2 by decide, show (3 : Int32).toNatClampNeg = 3 by decide, hm 1 (by omega), hm 2 (by omega), hm 3 (by omega), p0, p1, p2, nI_clamp (Nat.lt_trans (hmj 1) (by decide)), nI_clamp (Nat.lt_trans (hmj 2) (by decide)), nI_clamp (Nat.lt_trans (hmj 3) (by decide))]
  exact ⟨rfl, rfl, rfl⟩
theorem laySet_at {hd wt am wa ww mmb : Nat → Int32} {msh pa go : Nat → Int64} {us : Int32} {n s b : Nat} (hr : RG hd) (ham : ∀ k : Nat, k < 16 → hd k = am k) (hwa : ∀ t : Nat, t < 4 → hd (16 + t) = wa t) (hww : ∀ t : Nat, t < 4 → wt t = ww t) (hn : n ≤ 4) (hs : s < 2 ^ n) (hb : b ≤ 4) (hz : ZT b hd) (hMB : MB mmb) : ∃ (mj : Nat → Nat) (sh : Nat → Int64), (∀ j : Nat, mj j < 4) ∧ (∀ j : Nat, j < kN s → mj j = mN s j) ∧ (∀ t : Nat, t < n → sh t = 0) ∧ (f_X7_laySet (nI n) (nI b) am wa ww mmb msh pa go (nI s) us).1 = nI (kN s) ∧ (f_X7_laySet (nI n) (nI b) am wa ww mmb msh pa go (nI s) us).2.1 = mD hd wt us mj (kN s) ∧ (f_X7_laySet (nI n) (nI b) am wa ww mmb msh pa go (nI s) us).2.2.1 = mF hd wt us mj (kN s) ∧ (∀ j : Nat, j < 4 → (f_X7_laySet (nI n) (nI b) am wa ww mmb msh pa go (nI s) us).2.2.2.1 j = nI (mj j)) ∧ (f_X7_laySet (nI n) (nI b) am wa ww mmb msh pa go (nI s) us).2.2.2.2.1 = mS hd wt us mj (kN s) sh := by
  obtain ⟨e1, ⟨mj, hmj, hm, hmN⟩, e3⟩ := ls7 (mmb := mmb) (msh := msh) hn hs hMB
  refine ⟨mj, (L_X7_laySet_7 (nI n) (nI s) 5 0 0 mmb msh).2.2.2, hmj, hmN, e3, ?_⟩
  unfold f_X7_laySet
  dsimp only
  generalize L_X7_laySet_7 (nI n) (nI s) 5 0 0 mmb msh = y7 at e1 hm e3 ⊢
  have hk : kN s ≤ 4 := kN_le
  generalize kN s = k at e1 hk ⊢
  rw [e1]
  obtain ⟨g1, g2⟩ := layPairs_atz (wt := wt) (us := us) (pa := pa) (go := go) hr ham hwa hww hm hmj hk hb hz
  generalize f_X7_layPairs (nI b) (nI k) am wa ww y7.2.2.1 pa go us = z at g1 g2 ⊢
  have hdet : ∀ c : Nat, c < 4 → f_X7_determinant z.1 z.2 (nI c) = D3 (RC (PAf hd wt us mj k) (GOf hd wt us mj k) c) := fun c hc => (mdet_at hc).trans (D3_congr (fun q hq => RC_congr g1 g2 hq))
  have d3 : f_X7_determinant z.1 z.2 3 = mD hd wt us mj k := (hdet 3 (by omega)).trans D3_3
  have p0 : f_X7_determinant z.1 z.2 0 = mP hd wt us mj k 0 := hdet 0 (by omega)
  have p1 : f_X7_determinant z.1 z.2 1 = mP hd wt us mj k 1 := hdet 1 (by omega)
  have p2 : f_X7_determinant z.1 z.2 2 = mP hd wt us mj k 2 := hdet 2 (by omega)
  have m0 := hmj 0
  have h77 : (L_X7_laySet_77 (nI b) am wa ww us y7 z 5 0 0).2 = GB hd wt us (mj 0) 4 4 * mD hd wt us mj k := by
    rw [show (0 : Int32) = nI 0 by decide]
    rw [ls77L hr ham hwa hww hm hmj hb d3 b 5 0 0 (by omega) (by omega), ts_z hb hz (by omega) (by omega) (by omega)]
    grind
  rw [d3, h77, show (0 : Int32).toNatClampNeg = 0 by decide, hm 0 (by omega), nI_clamp (by omega)]
  unfold mF mS
  have go0 := g2 0 (by omega)
  have go1 := g2 1 (by omega)
  have go2 := g2 2 (by omega)
  rcases (show k = 0 ∨ k = 1 ∨ k = 2 ∨ k = 3 ∨ k = 4 by omega) with rfl | rfl | rfl | rfl | rfl
  · obtain ⟨q1, q2, q3⟩ := ls144_0 (a := mD hd wt us mj 0) (w := GB hd wt us (mj 0) 4 4 * mD hd wt us mj 0) (sh := y7.2.2.2) e1 hm hmj 
    rw [q1, q2, q3]
    have z0 : GOf hd wt us mj 0 0 = 0 := rfl
    have z1 : GOf hd wt us mj 0 1 = 0 := rfl
    have z2 : GOf hd wt us mj 0 2 = 0 := rfl
    rw [z0, z1, z2]
    refine ⟨rfl, rfl, ?_, hm, rfl⟩
    grind
  · obtain ⟨q1, q2, q3⟩ := ls144_1 (a := mD hd wt us mj 1) (w := GB hd wt us (mj 0) 4 4 * mD hd wt us mj 1) (sh := y7.2.2.2) e1 hm hmj 
    rw [q1, q2, q3]
    have z0 : GOf hd wt us mj 1 0 = 0 := rfl
    have z1 : GOf hd wt us mj 1 1 = 0 := rfl
    have z2 : GOf hd wt us mj 1 2 = 0 := rfl
    rw [z0, z1, z2]
    refine ⟨rfl, rfl, ?_, hm, rfl⟩
    grind
  · obtain ⟨q1, q2, q3⟩ := ls144_2 (a := mD hd wt us mj 2) (w := GB hd wt us (mj 0) 4 4 * mD hd wt us mj 2) (sh := y7.2.2.2) e1 hm hmj p0
    rw [q1, q2, q3, go0]
    have z1 : GOf hd wt us mj 2 1 = 0 := rfl
    have z2 : GOf hd wt us mj 2 2 = 0 := rfl
    rw [z1, z2]
    refine ⟨rfl, rfl, ?_, hm, rfl⟩
    grind
  · obtain ⟨q1, q2, q3⟩ := ls144_3 (a := mD hd wt us mj 3) (w := GB hd wt us (mj 0) 4 4 * mD hd wt us mj 3) (sh := y7.2.2.2) e1 hm hmj p0 p1
    rw [q1, q2, q3, go0, go1]
    have z2 : GOf hd wt us mj 3 2 = 0 := rfl
    rw [z2]
    refine ⟨rfl, rfl, ?_, hm, rfl⟩
    grind
  · obtain ⟨q1, q2, q3⟩ := ls144_4 (a := mD hd wt us mj 4) (w := GB hd wt us (mj 0) 4 4 * mD hd wt us mj 4) (sh := y7.2.2.2) e1 hm hmj p0 p1 p2
    rw [q1, q2, q3, go0, go1, go2]
    refine ⟨rfl, rfl, ?_, hm, rfl⟩
    rfl
