theorem ts_ext {f g : Nat → Int64} : ∀ (m j : Nat), (∀ i : Nat, j ≤ i → i < j + m → f i = g i) → ts f m j = ts g m j := by
  intro m
  induction m with
  | zero => intro j _; rfl
  | succ m ih =>
    intro j h
    simp only [ts]
    rw [h j (by omega) (by omega), ih (j + 1) (fun i h1 h2 => h i (by omega) (by omega))]
theorem ts_pad {f : Nat → Int64} {n : Nat} (hn : n ≤ 4) (h : ∀ i : Nat, n ≤ i → i < 4 → f i = 0) : ts f n 0 = ts f 4 0 := by
  rcases (show n = 0 ∨ n = 1 ∨ n = 2 ∨ n = 3 ∨ n = 4 by omega) with rfl | rfl | rfl | rfl | rfl
  · simp only [ts]; rw [h 0 (by omega) (by omega), h (0 + 1) (by omega) (by omega), h (0 + 1 + 1) (by omega) (by omega), h (0 + 1 + 1 + 1) (by omega) (by omega)]; grind
  · simp only [ts]; rw [h (0 + 1) (by omega) (by omega), h (0 + 1 + 1) (by omega) (by omega), h (0 + 1 + 1 + 1) (by omega) (by omega)]; grind
  · simp only [ts]; rw [h (0 + 1 + 1) (by omega) (by omega), h (0 + 1 + 1 + 1) (by omega) (by omega)]; grind
  · simp only [ts]; rw [h (0 + 1 + 1 + 1) (by omega) (by omega)]; grind
  · rfl
/-- what all have by shares -/
def MX (hd wt : Nat → Int32) (us : Int32) (bs t : Nat) : Int64 := ts (fun i => XQ hd wt us bs i * XV hd i t) 4 0
theorem mxX {pt : Nat → Int64} {hd : Nat → Int32} {t : Nat} (ht : t < 4) : ∀ (m n i : Nat) (acc : Int64), i + m = 4 → m < n → (L_X0_mixedAbove_5 pt hd (nI t) n acc (nI i)).1 = acc + ts (fun i => pt i * XV hd i t) m i := by
  intro m
  induction m with
  | zero =>
    intro n i acc h1 h2
    obtain ⟨n, rfl⟩ : ∃ k, n = k + 1 := ⟨n - 1, by omega⟩
    rw [show i = 4 by omega, L_X0_mixedAbove_5, if_pos (by decide)]
    simp only [ts]
    grind
  | succ m ih =>
    intro n i acc h1 h2
    obtain ⟨n, rfl⟩ : ∃ k, n = k + 1 := ⟨n - 1, by omega⟩
    rw [L_X0_mixedAbove_5, if_neg (nle4 (show i < 4 by omega)), nI_1, nI_clamp (by omega), heldOf_at (by omega) ht, ih n (i + 1) _ (by omega) (by omega)]
    simp only [ts]
    unfold XV
    grind
theorem mxM {sh : Nat → Int64} {hd am : Nat → Int32} {t k : Nat} (ham : ∀ k : Nat, k < 16 → hd k = am k) (ht : t < 4) (hk : k ≤ 4) : ∀ (m n i : Nat) (acc : Int64), i + m = k → m < n → (L_X7_mixedAbove_5 (nI k) am sh (nI t) n acc (nI i)).1 = acc + ts (fun i => sh i * XV hd i t) m i := by
  intro m
  induction m with
  | zero =>
    intro n i acc h1 h2
    obtain ⟨n, rfl⟩ : ∃ k, n = k + 1 := ⟨n - 1, by omega⟩
    rw [L_X7_mixedAbove_5, if_pos (nI_le (by omega) (by omega))]
    simp only [ts]
    grind
  | succ m ih =>
    intro n i acc h1 h2
    obtain ⟨n, rfl⟩ : ∃ k, n = k + 1 := ⟨n - 1, by omega⟩
    rw [L_X7_mixedAbove_5, if_neg (nI_ge (by omega) (by omega)), nI_1, nI_clamp (by omega), ix4 (by omega) ht, ← ham _ (by omega), ih n (i + 1) _ (by omega) (by omega)]
    simp only [ts]
    unfold XV
    grind
/-- what both sides hold when the best is found -/
def SAME (n : Nat) (hd wt : Nat → Int32) (us : Int32) (xpr : Nat → Int64) (bs : Nat) (X : Int32 × Int32 × Int64 × Int64 × Int32 × Int32 × Int64 × (Nat → Int64) × (Nat → Int64) × (Nat → Int64) × (Nat → Int64) × Int64 × Int64) (M : Int32 × Int64 × Int64 × Int32 × Int32 × (Nat → Int32) × (Nat → Int64) × (Nat → Int64) × (Nat → Int64)) : Prop := 1 ≤ bs ∧ bs < 2 ^ n ∧ 0 < BX hd wt us bs ∧ X.1 = nI bs ∧ M.2.2.2.1 = nI bs ∧ X.2.1 = M.2.2.2.2.1 ∧ X.2.2.1 = f_X7_lowest (FX hd wt us bs) (BX hd wt us bs) 0 ∧ X.2.2.2.1 = f_X7_lowest (FX hd wt us bs) (BX hd wt us bs) 1 ∧ X.2.2.2.2.2.1 = nI (mN bs 0) ∧ X.2.2.2.2.2.2.1 = BX hd wt us bs ∧ X.2.2.2.2.2.2.2.1 = f_X0_weigh xpr hd wt us ∧ (∀ t : Nat, t < 4 → X.2.2.2.2.2.2.2.2.2.2.1 t = XQ hd wt us bs t) ∧ M.2.1 = BX hd wt us bs ∧ M.2.2.1 = FX hd wt us bs ∧ M.2.2.2.2.2.1 0 = nI (mN bs 0) ∧ (∀ t : Nat, t < n → M.2.2.2.2.2.2.1 t = XQ hd wt us bs t)
theorem mixedX_at {pt : Nat → Int64} {hd wt : Nat → Int32} {us : Int32} {bs t : Nat} (ht : t < 4) (hp : ∀ t : Nat, t < 4 → pt t = XQ hd wt us bs t) : f_X0_mixedAbove pt hd (nI t) = MX hd wt us bs t := by
  unfold f_X0_mixedAbove MX
  dsimp only
  rw [show (0 : Int32) = nI 0 by decide, mxX ht 4 5 0 0 (by omega) (by omega), ts_ext (g := fun i => XQ hd wt us bs i * XV hd i t) 4 0 (fun i _ h2 => by rw [hp i (by omega)])]
  grind
theorem mixedM_at {sh : Nat → Int64} {hd wt am : Nat → Int32} {us : Int32} {n bs t : Nat} (ham : ∀ k : Nat, k < 16 → hd k = am k) (ht : t < 4) (hn : n ≤ 4) (h1 : 1 ≤ bs) (hb : bs < 2 ^ n) (hp : ∀ t : Nat, t < n → sh t = XQ hd wt us bs t) : f_X7_mixedAbove (nI n) am sh (nI t) = MX hd wt us bs t := by
  unfold f_X7_mixedAbove MX
  dsimp only
  rw [show (0 : Int32) = nI 0 by decide, mxM (hd := hd) ham ht hn n 5 0 0 (by omega) (by omega), ts_ext (g := fun i => XQ hd wt us bs i * XV hd i t) n 0 (fun i _ h2 => by rw [hp i (by omega)]), ts_pad hn (fun i h2 h3 => by rw [XQ_out h1 hn hb h3 h2]; grind)]
  grind
theorem ofN_at {n b : Nat} {hd wt : Nat → Int32} {us : Int32} {xpr : Nat → Int64} {bs : Nat} {X : Int32 × Int32 × Int64 × Int64 × Int32 × Int32 × Int64 × (Nat → Int64) × (Nat → Int64) × (Nat → Int64) × (Nat → Int64) × Int64 × Int64} {M : Int32 × Int64 × Int64 × Int32 × Int32 × (Nat → Int32) × (Nat → Int64) × (Nat → Int64) × (Nat → Int64)} (h : SAME n hd wt us xpr bs X M) {k : Nat} (hk : k < 4) : f_X6_ofNearest X.1 X.2.1 X.2.2.1 X.2.2.2.1 (nI k) = f_X7_bestNow M.2.1 M.2.2.1 M.2.2.2.1 M.2.2.2.2.1 (nI k) := by
  obtain ⟨s1, s2, s3, s4, s5, s6, s7, s8, s9, s10, s11, s12, s13, s14, s15, s16⟩ := h
  rw [s4, s5, s6, s7, s8, s13, s14]
  unfold f_X6_ofNearest f_X7_bestNow
  rcases (show k = 0 ∨ k = 1 ∨ k = 2 ∨ k = 3 by omega) with rfl | rfl | rfl | rfl
  · rw [if_pos (by decide), if_pos (by decide)]
  · rw [if_neg (by decide), if_pos (by decide), if_neg (by decide), if_neg (by decide), show nI 1 - 1 = 0 by decide]
  · rw [if_neg (by decide), if_neg (by decide), if_pos (by decide), if_neg (by decide), if_neg (by decide), show nI 2 - 1 = 1 by decide]
  · rw [if_neg (by decide), if_neg (by decide), if_neg (by decide), if_neg (by decide), if_pos (by decide)]
theorem low_at {hd wt : Nat → Int32} {us : Int32} {bs : Nat} {x : Int64} {B : Int} {q : Int32} (hr : RG hd) (hw : RW wt) (h1 : 1 ≤ bs) (hs : bs < 16) (h0 : 0 < BX hd wt us bs) (hx : ∃ z : Int, Bd x z B) (hB : B < 2 ^ 63) : f_X1_part (f_X1_put x (BX hd wt us bs)).1 (f_X1_put x (BX hd wt us bs)).2 q = f_X7_lowest x (BX hd wt us bs) q := by
  obtain ⟨⟨d, d0, d1, ed⟩, _⟩ := BX_lN (us := us) hr hw h1 hs h0
  obtain ⟨z, hz⟩ := hx
  rw [ed]
  exact part_low (hz.ab hB) d0 d1
theorem share_at {n b : Nat} {hd wt am wa ww : Nat → Int32} {us : Int32} {xpr : Nat → Int64} {bs : Nat} {X : Int32 × Int32 × Int64 × Int64 × Int32 × Int32 × Int64 × (Nat → Int64) × (Nat → Int64) × (Nat → Int64) × (Nat → Int64) × Int64 × Int64} {M : Int32 × Int64 × Int64 × Int32 × Int32 × (Nat → Int32) × (Nat → Int64) × (Nat → Int64) × (Nat → Int64)} (hE : ENV b hd wt am wa ww) (hn : n ≤ 4) (h : SAME n hd wt us xpr bs X M) {s : Nat} (hs : s < n) (q : Int32) : (f_X6_shareByNearest X.2.2.2.2.2.2.1 X.2.2.2.2.2.2.2.2.2.2.1 (nI s) q).1 = f_X7_shareNow M.2.1 M.2.2.2.2.2.2.1 (nI s) q := by
  obtain ⟨s1, s2, s3, s4, s5, s6, s7, s8, s9, s10, s11, s12, s13, s14, s15, s16⟩ := h
  have hp := p16 hn
  unfold f_X6_shareByNearest f_X7_shareNow
  dsimp only
  rw [s10, s13, partOf_at (by omega), s12 s (by omega), nI_clamp (by omega), s16 s hs]
  exact low_at hE.2.1 hE.2.2.1 s1 (by omega) s3 (XQ_Bd hE.2.1 hE.2.2.1 s1 (by omega) (by omega)) (by decide)
theorem XV_Bd {hd : Nat → Int32} {s t : Nat} (h : RG hd) (hs : s < 5) (ht : t < 4) : Bd (XV hd s t) (xI hd s t) 20 := by
  have q := xI_rg h hs ht
  exact ⟨XV_I, by omega, by omega⟩
theorem GB_Bd {hd wt : Nat → Int32} {us : Int32} {o a b : Nat} (h : RG hd) (hw : RW wt) (ho : o < 5) (ha : a < 5) (hb : b < 5) : Bd (GB hd wt us o a b) (WI (uI wt us) (fun t => xI hd a t - xI hd o t) (fun t => xI hd b t - xI hd o t)) 8000 := by
  refine ⟨GB_I, WI_rg (fun t => uI_rg hw) (fun t ht => ?_) (fun t ht => ?_)⟩
  · have p := xI_rg h ha ht
    have q := xI_rg h ho ht
    omega
  · have p := xI_rg h hb ht
    have q := xI_rg h ho ht
    omega
theorem MX_Bd {hd wt : Nat → Int32} {us : Int32} {bs t : Nat} (h : RG hd) (hw : RW wt) (h1 : 1 ≤ bs) (hs : bs < 16) (ht : t < 4) : ∃ z : Int, Bd (MX hd wt us bs t) z 983040000000000 := by
  obtain ⟨z0, b0⟩ := XQ_Bd (us := us) (t := 0) h hw h1 hs (by omega)
  obtain ⟨z1, b1⟩ := XQ_Bd (us := us) (t := 1) h hw h1 hs (by omega)
  obtain ⟨z2, b2⟩ := XQ_Bd (us := us) (t := 2) h hw h1 hs (by omega)
  obtain ⟨z3, b3⟩ := XQ_Bd (us := us) (t := 3) h hw h1 hs (by omega)
  have bz : Bd (0 : Int64) 0 0 := ⟨rfl, by decide, by decide⟩
  unfold MX
  simp only [ts]
  exact ⟨_, ((b0.mul (XV_Bd h (show 0 < 5 by omega) ht)).add ((b1.mul (XV_Bd h (show 1 < 5 by omega) ht)).add ((b2.mul (XV_Bd h (show 2 < 5 by omega) ht)).add ((b3.mul (XV_Bd h (show 3 < 5 by omega) ht)).add bz)))).mono (by decide)⟩
theorem mixed_at {n b : Nat} {hd wt am wa ww : Nat → Int32} {us : Int32} {xpr : Nat → Int64} {bs : Nat} {X : Int32 × Int32 × Int64 × Int64 × Int32 × Int32 × Int64 × (Nat → Int64) × (Nat → Int64) × (Nat → Int64) × (Nat → Int64) × Int64 × Int64} {M : Int32 × Int64 × Int64 × Int32 × Int32 × (Nat → Int32) × (Nat → Int64) × (Nat → Int64) × (Nat → Int64)} (hE : ENV b hd wt am wa ww) (hn : n ≤ 4) (h : SAME n hd wt us xpr bs X M) {t : Nat} (ht : t < 4) (q : Int32) : (f_X6_mixedByNearest X.2.2.2.2.2.2.1 X.2.2.2.2.2.2.2.2.2.2.1 hd (nI t) q).1 = f_X7_lowest (f_X7_mixedAbove (nI n) am M.2.2.2.2.2.2.1 (nI t)) M.2.1 q := by
  obtain ⟨s1, s2, s3, s4, s5, s6, s7, s8, s9, s10, s11, s12, s13, s14, s15, s16⟩ := h
  have hp := p16 hn
  unfold f_X6_mixedByNearest
  dsimp only
  rw [s10, s13, mixedX_at ht s12, mixedM_at hE.2.2.2.1 ht hn s1 s2 s16]
  exact low_at hE.2.1 hE.2.2.1 s1 (by omega) s3 (MX_Bd hE.2.1 hE.2.2.1 s1 (by omega) ht) (by decide)
theorem XQ_sum {hd wt : Nat → Int32} {us : Int32} {bs : Nat} (hb : mN bs 0 < 4) : XQ hd wt us bs 0 + XQ hd wt us bs 1 + XQ hd wt us bs 2 + XQ hd wt us bs 3 = BX hd wt us bs := by
  unfold XQ BX
  generalize mN bs 0 = be at hb ⊢
  generalize GB hd wt us be = g
  rcases (show be = 0 ∨ be = 1 ∨ be = 2 ∨ be = 3 by omega) with rfl | rfl | rfl | rfl
  · have v0 : XP (nI bs) 0 g 0 = bX (nI bs) 0 g - pX (nI bs) 0 g 0 - pX (nI bs) 0 g 1 - pX (nI bs) 0 g 2 := rfl
    have v1 : XP (nI bs) 0 g 1 = pX (nI bs) 0 g 0 := rfl
    have v2 : XP (nI bs) 0 g 2 = pX (nI bs) 0 g 1 := rfl
    have v3 : XP (nI bs) 0 g 3 = pX (nI bs) 0 g 2 := rfl
    rw [v0, v1, v2, v3]
    grind
  · have v0 : XP (nI bs) 1 g 0 = pX (nI bs) 1 g 0 := rfl
    have v1 : XP (nI bs) 1 g 1 = bX (nI bs) 1 g - pX (nI bs) 1 g 0 - pX (nI bs) 1 g 1 - pX (nI bs) 1 g 2 := rfl
    have v2 : XP (nI bs) 1 g 2 = pX (nI bs) 1 g 1 := rfl
    have v3 : XP (nI bs) 1 g 3 = pX (nI bs) 1 g 2 := rfl
    rw [v0, v1, v2, v3]
    grind
  · have v0 : XP (nI bs) 2 g 0 = pX (nI bs) 2 g 0 := rfl
    have v1 : XP (nI bs) 2 g 1 = pX (nI bs) 2 g 1 := rfl
    have v2 : XP (nI bs) 2 g 2 = bX (nI bs) 2 g - pX (nI bs) 2 g 0 - pX (nI bs) 2 g 1 - pX (nI bs) 2 g 2 := rfl
    have v3 : XP (nI bs) 2 g 3 = pX (nI bs) 2 g 2 := rfl
    rw [v0, v1, v2, v3]
    grind
  · have v0 : XP (nI bs) 3 g 0 = pX (nI bs) 3 g 0 := rfl
    have v1 : XP (nI bs) 3 g 1 = pX (nI bs) 3 g 1 := rfl
    have v2 : XP (nI bs) 3 g 2 = pX (nI bs) 3 g 2 := rfl
    have v3 : XP (nI bs) 3 g 3 = bX (nI bs) 3 g - pX (nI bs) 3 g 0 - pX (nI bs) 3 g 1 - pX (nI bs) 3 g 2 := rfl
    rw [v0, v1, v2, v3]
    grind
/-- the press, above -/
def PX (hd wt : Nat → Int32) (us : Int32) (bs s : Nat) : Int64 := -BX hd wt us bs * GB hd wt us (mN bs 0) s 4 + ts (fun i => XQ hd wt us bs i * GB hd wt us (mN bs 0) s i) 4 0
theorem prX {pr pt : Nat → Int64} {hd wt : Nat → Int32} {us : Int32} {be s : Nat} (hbe : be < 5) (hs : s < 5) : ∀ (m n i : Nat) (acc : Int64), i + m = 4 → m < n → (L_X0_pressAbove_16 (nI be) (f_X0_weigh pr hd wt us) pt (nI s) n acc (nI i)).1 = acc + ts (fun i => pt i * GB hd wt us be s i) m i := by
  intro m
  induction m with
  | zero =>
    intro n i acc h1 h2
    obtain ⟨n, rfl⟩ : ∃ k, n = k + 1 := ⟨n - 1, by omega⟩
    rw [show i = 4 by omega, L_X0_pressAbove_16, if_pos (by decide)]
    simp only [ts]
    grind
  | succ m ih =>
    intro n i acc h1 h2
    obtain ⟨n, rfl⟩ : ∃ k, n = k + 1 := ⟨n - 1, by omega⟩
    rw [L_X0_pressAbove_16, if_neg (nle4 (show i < 4 by omega)), nI_1, nI_clamp (by omega), fromBase_at hbe hs (by omega), ih n (i + 1) _ (by omega) (by omega)]
    simp only [ts]
    grind
theorem pressX_at {pr pt : Nat → Int64} {hd wt : Nat → Int32} {us : Int32} {bs s : Nat} (hs : s < 4) (hp : ∀ t : Nat, t < 4 → pt t = XQ hd wt us bs t) : f_X0_pressAbove (nI (mN bs 0)) (BX hd wt us bs) (f_X0_weigh pr hd wt us) pt (nI s) = PX hd wt us bs s := by
  have hm : mN bs 0 < 4 := mN_lt4
  unfold f_X0_pressAbove PX
  dsimp only
  rw [show (4 : Int32) = nI 4 by decide, fromBase_at (by omega) (by omega) (by omega), show (0 : Int32) = nI 0 by decide, prX (by omega) (by omega) 4 5 0 _ (by omega) (by omega), ts_ext (g := fun i => XQ hd wt us bs i * GB hd wt us (mN bs 0) s i) 4 0 (fun i _ h2 => by rw [hp i (by omega)])]
theorem pr_term {u a o y D p0 p1 p2 p3 x0 x1 x2 x3 : Int64} (h : p0 + p1 + p2 + p3 = D) : u * (a - o) * (p0 * x0 + (p1 * x1 + (p2 * x2 + (p3 * x3 + 0))) - y * D) = -D * (u * (a - o) * (y - o)) + p0 * (u * (a - o) * (x0 - o)) + p1 * (u * (a - o) * (x1 - o)) + p2 * (u * (a - o) * (x2 - o)) + p3 * (u * (a - o) * (x3 - o)) := by
  rw [← h]
  grind
theorem press_id {hd wt : Nat → Int32} {us : Int32} {bs s : Nat} : ts (fun t => UW wt us t * (XV hd s t - XV hd (mN bs 0) t) * (MX hd wt us bs t - XV hd 4 t * BX hd wt us bs)) 4 0 = PX hd wt us bs s := by
  have hsum := XQ_sum (hd := hd) (wt := wt) (us := us) (bs := bs) mN_lt4
  unfold PX GB MX
  simp only [ts]
  generalize XQ hd wt us bs 0 = p0 at hsum ⊢
  generalize XQ hd wt us bs (0 + 1) = p1 at hsum ⊢
  generalize XQ hd wt us bs (0 + 1 + 1) = p2 at hsum ⊢
  generalize XQ hd wt us bs (0 + 1 + 1 + 1) = p3 at hsum ⊢
  generalize BX hd wt us bs = D at hsum ⊢
  have hs2 : p0 + p1 + p2 + p3 = D := hsum
  rw [pr_term hs2, pr_term hs2, pr_term hs2, pr_term hs2]
  grind
theorem prM {hd wt am wa ww mmb : Nat → Int32} {sh : Nat → Int64} {us : Int32} {n b bs s : Nat} (hE : ENV b hd wt am wa ww) (hn : n ≤ 4) (h1 : 1 ≤ bs) (hbs : bs < 2 ^ n) (hm : mmb 0 = nI (mN bs 0)) (hp : ∀ t : Nat, t < n → sh t = XQ hd wt us bs t) (hs : s < 4) : ∀ (m f t : Nat) (acc : Int64), t + m = b → m < f → (L_X7_pressNow_6 (nI n) (nI b) (BX hd wt us bs) am wa ww mmb sh (nI s) us f acc (nI t)).1 = acc + ts (fun t => UW wt us t * (XV hd s t - XV hd (mN bs 0) t) * (MX hd wt us bs t - XV hd 4 t * BX hd wt us bs)) m t := by
  obtain ⟨hb, hr, hw, ham, hwa, hww, hz⟩ := hE
  have hmN : mN bs 0 < 4 := mN_lt4
  intro m
  induction m with
  | zero =>
    intro f t acc h1 h2
    obtain ⟨f, rfl⟩ : ∃ k, f = k + 1 := ⟨f - 1, by omega⟩
    rw [L_X7_pressNow_6, if_pos (nI_le (by omega) (by omega))]
    simp only [ts]
    grind
  | succ m ih =>
    intro f t acc g1 g2
    obtain ⟨f, rfl⟩ : ∃ k, f = k + 1 := ⟨f - 1, by omega⟩
    have ht : t < 4 := by omega
    rw [L_X7_pressNow_6, if_neg (nI_ge (by omega) (by omega))]
    dsimp only
    rw [nI_1, mixedM_at ham ht hn h1 hbs hp, show (0 : Int32).toNatClampNeg = 0 by decide, hm, ix4 hs ht, ix4 hmN ht, nI_clamp (by omega), ih f (t + 1) _ (by omega) (by omega)]
    have e1 : (am (s * 4 + t) - am (mN bs 0 * 4 + t)).toInt64 = XV hd s t - XV hd (mN bs 0) t := by
      unfold XV
      rw [← ham _ (by omega), ← ham _ (by omega)]
      obtain ⟨x, hx, ex⟩ := hr (s * 4 + t) (by omega)
      obtain ⟨y, hy, ey⟩ := hr (mN bs 0 * 4 + t) (by omega)
      rw [ex, ey, sub64 (by omega) (by omega)]
    have e2 : (wa t).toInt64 = XV hd 4 t := by
      unfold XV
      rw [show 4 * 4 + t = 16 + t by omega, hwa t ht]
    rw [e1, e2, ← hww t ht]
    simp only [ts]
    have e : UW wt us t = if f_X7_hasBit us (nI t) = 0 then 0 else (wt t).toInt64 := rfl
    rw [e]
    split <;> grind
theorem pressM_at {hd wt am wa ww mmb : Nat → Int32} {sh : Nat → Int64} {us : Int32} {n b bs s : Nat} {q : Int32} (hE : ENV b hd wt am wa ww) (hn : n ≤ 4) (h1 : 1 ≤ bs) (hbs : bs < 2 ^ n) (hm : mmb 0 = nI (mN bs 0)) (hp : ∀ t : Nat, t < n → sh t = XQ hd wt us bs t) (hs : s < 4) : f_X7_pressNow (nI n) (nI b) (BX hd wt us bs) am wa ww mmb sh (nI s) us q = f_X7_lowest (PX hd wt us bs s) (BX hd wt us bs) q := by
  have hb := hE.1
  have hmN : mN bs 0 < 4 := mN_lt4
  unfold f_X7_pressNow
  dsimp only
  rw [show (0 : Int32) = nI 0 by decide, prM hE hn h1 hbs hm hp hs b 5 0 0 (by omega) (by omega), ts_pad hb (fun t h2 h3 => by rw [hE.2.2.2.2.2.2 s t (by omega) h3 h2, hE.2.2.2.2.2.2 (mN bs 0) t (by omega) h3 h2]; grind), press_id]
  congr 1
  grind
theorem PX_Bd {hd wt : Nat → Int32} {us : Int32} {bs s : Nat} (h : RG hd) (hw : RW wt) (h1 : 1 ≤ bs) (hb : bs < 16) (hs : s < 4) : ∃ z : Int, Bd (PX hd wt us bs s) z 417792000000000000 := by
  have hmN : mN bs 0 < 4 := mN_lt4
  obtain ⟨z0, b0⟩ := XQ_Bd (us := us) (t := 0) h hw h1 hb (by omega)
  obtain ⟨z1, b1⟩ := XQ_Bd (us := us) (t := 1) h hw h1 hb (by omega)
  obtain ⟨z2, b2⟩ := XQ_Bd (us := us) (t := 2) h hw h1 hb (by omega)
  obtain ⟨z3, b3⟩ := XQ_Bd (us := us) (t := 3) h hw h1 hb (by omega)
  obtain ⟨zd, _, bd⟩ := BX_Bd (us := us) h hw h1 hb
  have bz : Bd (0 : Int64) 0 0 := ⟨rfl, by decide, by decide⟩
  have g := fun (i : Nat) (hi : i < 5) => GB_Bd (us := us) (o := mN bs 0) (a := s) (b := i) h hw (by omega) (by omega) hi
  have e : PX hd wt us bs s = (0 - BX hd wt us bs) * GB hd wt us (mN bs 0) s 4 + (XQ hd wt us bs 0 * GB hd wt us (mN bs 0) s 0 + (XQ hd wt us bs 1 * GB hd wt us (mN bs 0) s 1 + (XQ hd wt us bs 2 * GB hd wt us (mN bs 0) s 2 + (XQ hd wt us bs 3 * GB hd wt us (mN bs 0) s 3 + 0)))) := by
    unfold PX
    simp only [ts]
    have e0 : -BX hd wt us bs = 0 - BX hd wt us bs := by grind
    rw [e0]
  rw [e]
  exact ⟨_, (((bz.sub bd).mul (g 4 (by omega))).add ((b0.mul (g 0 (by omega))).add ((b1.mul (g 1 (by omega))).add ((b2.mul (g 2 (by omega))).add ((b3.mul (g 3 (by omega))).add bz))))).mono (by decide)⟩
theorem press_at {n b : Nat} {hd wt am wa ww : Nat → Int32} {us : Int32} {xpr : Nat → Int64} {bs : Nat} {X : Int32 × Int32 × Int64 × Int64 × Int32 × Int32 × Int64 × (Nat → Int64) × (Nat → Int64) × (Nat → Int64) × (Nat → Int64) × Int64 × Int64} {M : Int32 × Int64 × Int64 × Int32 × Int32 × (Nat → Int32) × (Nat → Int64) × (Nat → Int64) × (Nat → Int64)} (hE : ENV b hd wt am wa ww) (hn : n ≤ 4) (h : SAME n hd wt us xpr bs X M) {s : Nat} (hs : s < 4) (q : Int32) : (f_X6_pressByNearest X.2.2.2.2.2.1 X.2.2.2.2.2.2.1 X.2.2.2.2.2.2.2.1 X.2.2.2.2.2.2.2.2.2.2.1 (nI s) q).1 = f_X7_pressNow (nI n) (nI b) M.2.1 am wa ww M.2.2.2.2.2.1 M.2.2.2.2.2.2.1 (nI s) us q := by
  obtain ⟨s1, s2, s3, s4, s5, s6, s7, s8, s9, s10, s11, s12, s13, s14, s15, s16⟩ := h
  have hp := p16 hn
  unfold f_X6_pressByNearest
  dsimp only
  rw [s9, s10, s11, s13, pressX_at hs s12, pressM_at hE hn s1 s2 s15 s16 hs]
  exact low_at hE.2.1 hE.2.2.1 s1 (by omega) s3 (PX_Bd hE.2.1 hE.2.2.1 s1 (by omega) hs) (by decide)
