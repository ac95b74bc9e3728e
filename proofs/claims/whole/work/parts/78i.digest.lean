theorem nlt3 {k : Nat} (h : k < 4) : ¬ (3 : Int32) < nI k := by rcases (show k = 0 ∨ k = 1 ∨ k = 2 ∨ k = 3 by omega) with rfl | rfl | rfl | rfl <;> decide
theorem nlt4 {k : Nat} (h : k < 5) : ¬ (4 : Int32) < nI k := by rcases (show k = 0 ∨ k = 1 ∨ k = 2 ∨ k = 3 ∨ k = 4 by omega) with rfl | rfl | rfl | rfl | rfl <;> decide
theorem nlt0 {k : Nat} (h : k < 4) : ¬ nI k < 0 := by rcases (show k = 0 ∨ k = 1 ∨ k = 2 ∨ k = 3 by omega) with rfl | rfl | rfl | rfl <;> decide
theorem ylt4 {k : Nat} (h : k < 4) : nI k < 4 := by rcases (show k = 0 ∨ k = 1 ∨ k = 2 ∨ k = 3 by omega) with rfl | rfl | rfl | rfl <;> decide
theorem isSrc_n {n s : Nat} (hn : n ≤ 4) (hs : s < n) : ¬ f_X2_isSource (nI n) (nI s) = 0 := by
  unfold f_X2_isSource
  rw [if_neg (nlt0 (by omega)), if_neg (nI_ge hs (by omega))]
  exact i10
theorem isTrc_n {n s : Nat} (hn : n ≤ 4) (hs : s < n) : ¬ f_X2_isTracer (nI n) (nI s) = 0 := by
  unfold f_X2_isTracer
  rw [if_neg (nlt0 (by omega)), if_neg (nI_ge hs (by omega))]
  exact i10
theorem has_at {n b i j : Nat} {hd wt am wa ww : Nat → Int32} (hE : ENV b hd wt am wa ww) (hn : n ≤ 4) (hi : i < n) (hj : j < 4) : f_X6_has (nI n) (nI b) hd (nI i) (nI j) = f_X7_hasNow (nI b) am (nI i) (nI j) := by
  unfold f_X6_has f_X7_hasNow
  rw [if_neg (isSrc_n hn hi), if_neg (nlt0 hj), if_pos (ylt4 hj), trc_eq ⟨b, hE.1, rfl⟩]
  split
  · rfl
  · rw [heldOf_at (by omega) hj, ix4 (by omega) hj, hE.2.2.2.1 _ (by omega)]
theorem dg20 {n b i : Nat} {hd wt am wa ww : Nat → Int32} (hE : ENV b hd wt am wa ww) (hn : n ≤ 4) (hi : i < n) : ∀ (m j : Nat) (acc : Int64), j ≤ 4 → 4 < j + m → (L_X6_digestOfMud_20 (nI n) (nI b) hd (nI i) m acc (nI j)).1 = (L_X7_digest_19 (nI b) am (nI i) m (nI j) acc).2 := by
  intro m
  induction m with
  | zero => intro j acc h1 h2; omega
  | succ m ih =>
    intro j acc h1 h2
    rw [L_X6_digestOfMud_20, L_X7_digest_19]
    by_cases c : j = 4
    · rw [c, if_pos (by decide), if_pos (by decide)]
    · rw [if_neg (nle4 (show j < 4 by omega)), if_neg (nle4 (show j < 4 by omega))]
      dsimp only
      unfold f_X7_mix
      rw [nI_1, has_at hE hn hi (by omega), ih (j + 1) _ (by omega) (by omega)]
theorem dg5 {n b : Nat} {hd wt am wa ww : Nat → Int32} (hE : ENV b hd wt am wa ww) (hn : n ≤ 4) : ∀ (m i : Nat) (acc : Int64), i ≤ n → n < i + m → (L_X6_digestOfMud_5 (nI n) (nI b) hd m acc (nI i)).1 = (L_X7_digest_9 (nI n) (nI b) am m (nI i) acc).2 := by
  intro m
  induction m with
  | zero => intro i acc h1 h2; omega
  | succ m ih =>
    intro i acc h1 h2
    rw [L_X6_digestOfMud_5, L_X7_digest_9]
    by_cases c : i = n
    · rw [if_pos (nI_le (show n ≤ i by omega) (by omega)), if_pos (nI_le (show n ≤ i by omega) (by omega))]
    · rw [if_neg (nI_ge (show i < n by omega) (by omega)), if_neg (nI_ge (show i < n by omega) (by omega))]
      dsimp only
      have e := dg20 hE hn (show i < n by omega) 5 0 acc (by omega) (by omega)
      rw [nI_0] at e
      rw [nI_1, e, ih (i + 1) _ (by omega) (by omega)]
theorem dg56 {b : Nat} {hd wt am wa ww : Nat → Int32} (hE : ENV b hd wt am wa ww) : ∀ (m t : Nat) (acc : Int64), t ≤ b → b < t + m → (L_X6_digestOfMud_56 (nI b) hd wt m acc (nI t)).1 = (L_X7_digest_48 (nI b) wa ww m (nI t) acc).2 := by
  have hb := hE.1
  intro m
  induction m with
  | zero => intro i acc h1 h2; omega
  | succ m ih =>
    intro i acc h1 h2
    rw [L_X6_digestOfMud_56, L_X7_digest_48]
    by_cases c : i = b
    · rw [if_pos (nI_le (show b ≤ i by omega) (by omega)), if_pos (nI_le (show b ≤ i by omega) (by omega))]
    · rw [if_neg (nI_ge (show i < b by omega) (by omega)), if_neg (nI_ge (show i < b by omega) (by omega))]
      dsimp only
      unfold f_X7_mix f_X6_tracer
      rw [if_neg (isTrc_n hE.1 (show i < b by omega)), if_pos rfl, if_neg (isTrc_n hE.1 (show i < b by omega)), if_neg (by decide), if_pos rfl, heldOf_m (by omega), weightOf_at (by omega), nI_1, nI_clamp (by omega), hE.2.2.2.2.1 i (by omega), hE.2.2.2.2.2.1 i (by omega), ih (i + 1) _ (by omega) (by omega)]
theorem mud_eq {n b : Nat} {hd wt am wa ww : Nat → Int32} {h0 : Int64} (hE : ENV b hd wt am wa ww) (hn : n ≤ 4) : f_X6_digestOfMud (nI n) (nI b) hd wt h0 = (L_X7_digest_48 (nI b) wa ww 5 0 (L_X7_digest_9 (nI n) (nI b) am 5 0 h0).2).2 := by
  have hb := hE.1
  unfold f_X6_digestOfMud
  dsimp only
  have e1 := dg5 hE hn 5 0 h0 (by omega) (by omega)
  have e2 := dg56 hE 5 0 (L_X7_digest_9 (nI n) (nI b) am 5 0 h0).2 (by omega) (by omega)
  rw [nI_0] at e1 e2
  rw [e1, e2]
theorem dg14 {n b : Nat} {hd wt : Nat → Int32} {us : Int32} {xpr : Nat → Int64} {bs : Nat} {X : Int32 × Int32 × Int64 × Int64 × Int32 × Int32 × Int64 × (Nat → Int64) × (Nat → Int64) × (Nat → Int64) × (Nat → Int64) × Int64 × Int64} {M : Int32 × Int64 × Int64 × Int32 × Int32 × (Nat → Int32) × (Nat → Int64) × (Nat → Int64) × (Nat → Int64)} (h : SAME n hd wt us xpr bs X M) : ∀ (m k : Nat) (acc : Int64), k ≤ 4 → 4 < k + m → (L_X6_digestOfShares_18 X m acc (nI k)).1 = (L_X7_mixBy_7 M m (nI k) acc).2 := by
  intro m
  induction m with
  | zero => intro j acc h1 h2; omega
  | succ m ih =>
    intro j acc h1 h2
    rw [L_X6_digestOfShares_18, L_X7_mixBy_7]
    by_cases c : j = 4
    · rw [c, if_pos (by decide), if_pos (by decide)]
    · rw [if_neg (nlt3 (show j < 4 by omega)), if_neg (nle4 (show j < 4 by omega))]
      dsimp only
      unfold f_X7_mix
      rw [nI_1, ofN_at (b := b) h (show j < 4 by omega), ih (j + 1) _ (by omega) (by omega)]
theorem dg44 {n b u : Nat} {hd wt am wa ww : Nat → Int32} {xpr : Nat → Int64} {bs : Nat} {X : Int32 × Int32 × Int64 × Int64 × Int32 × Int32 × Int64 × (Nat → Int64) × (Nat → Int64) × (Nat → Int64) × (Nat → Int64) × Int64 × Int64} {M : Int32 × Int64 × Int64 × Int32 × Int32 × (Nat → Int32) × (Nat → Int64) × (Nat → Int64) × (Nat → Int64)} (hST : ST (nI b) hd wt am wa ww) (hb : b ≤ 4) (hu : u < 2 ^ b) (hn : n ≤ 4) (h : SAME n hd wt (nI u) xpr bs X M) : ∀ (m s : Nat) (acc w7 w8 : Int64), s ≤ n → n < s + m → (L_X6_digestOfShares_48 (nI n) hd (nI u) X m acc (nI s) w7 w8).1 = (L_X7_mixBy_29 (nI n) (nI b) am wa ww (nI u) M m (nI s) acc).2 := by
  have hE := env_of hb hST
  intro m
  induction m with
  | zero => intro s acc w7 w8 h1 h2; omega
  | succ m ih =>
    intro s acc w7 w8 h1 h2
    rw [L_X6_digestOfShares_48, L_X7_mixBy_29]
    by_cases c : s = n
    · rw [if_pos (nI_le (show n ≤ s by omega) (by omega)), if_pos (nI_le (show n ≤ s by omega) (by omega))]
    · rw [if_neg (nI_ge (show s < n by omega) (by omega)), if_neg (nI_ge (show s < n by omega) (by omega))]
      dsimp only
      unfold f_X7_mix
      rw [nI_1, share_at hE hn h (show s < n by omega) 0, share_at hE hn h (show s < n by omega) 1, press_at hE hn h (show s < 4 by omega) 0, press_at hE hn h (show s < 4 by omega) 1, alikeOf_eq (show s < 4 by omega) hb hu hST, ih (s + 1) _ _ _ (by omega) (by omega)]
theorem dg149 {n b : Nat} {us : Int32} {hd wt am wa ww : Nat → Int32} {xpr : Nat → Int64} {bs : Nat} {X : Int32 × Int32 × Int64 × Int64 × Int32 × Int32 × Int64 × (Nat → Int64) × (Nat → Int64) × (Nat → Int64) × (Nat → Int64) × Int64 × Int64} {M : Int32 × Int64 × Int64 × Int32 × Int32 × (Nat → Int32) × (Nat → Int64) × (Nat → Int64) × (Nat → Int64)} (hE : ENV b hd wt am wa ww) (hn : n ≤ 4) (h : SAME n hd wt us xpr bs X M) : ∀ (m t : Nat) (acc w7 w8 : Int64), t ≤ b → b < t + m → (L_X6_digestOfShares_153 (nI b) hd X m acc (nI t) w7 w8).1 = (L_X7_mixBy_98 (nI n) (nI b) am M m (nI t) acc).2 := by
  have hb := hE.1
  intro m
  induction m with
  | zero => intro s acc w7 w8 h1 h2; omega
  | succ m ih =>
    intro s acc w7 w8 h1 h2
    rw [L_X6_digestOfShares_153, L_X7_mixBy_98]
    by_cases c : s = b
    · rw [if_pos (nI_le (show b ≤ s by omega) (by omega)), if_pos (nI_le (show b ≤ s by omega) (by omega))]
    · rw [if_neg (nI_ge (show s < b by omega) (by omega)), if_neg (nI_ge (show s < b by omega) (by omega))]
      dsimp only
      unfold f_X7_mix
      rw [nI_1, mixed_at hE hn h (show s < 4 by omega) 0, mixed_at hE hn h (show s < 4 by omega) 1, ih (s + 1) _ _ _ (by omega) (by omega)]
theorem shares_eq {xta xtb xna xnb : Int64} {xfs xba : Int32} {xbe : Int64} {xpr xmx xsd xpt : Nat → Int64} {xfa xfb : Int64} {mmy : Int32} {mbe mmf : Int64} {msh mpa mgo : Nat → Int64} {hd wt am wa ww mmb : Nat → Int32} {n b u : Nat} {acc : Int64} (hST : ST (nI b) hd wt am wa ww) (hb : b ≤ 4) (hu : u < 2 ^ b) (h1 : 1 ≤ n) (hn : n ≤ 4) (hMB : MB mmb) : (f_X6_digestOfShares xta xtb xna xnb xfs xba xbe xpr xmx xsd xpt xfa xfb (nI n) (nI b) hd wt acc (nI u)).1 = (f_X7_mixBy (nI n) (nI b) mmy mbe mmf acc am wa ww mmb msh mpa mgo (nI u)).2.2.2.2.2.1 ∧ MB (f_X7_mixBy (nI n) (nI b) mmy mbe mmf acc am wa ww mmb msh mpa mgo (nI u)).2.2.2.2.2.2.1 := by
  have hE := env_of hb hST
  have hm := layBest_MB (mtc := nI b) (mmy := mmy) (mbe := mbe) (mmf := mmf) (mam := am) (mwa := wa) (mww := ww) (msh := msh) (mpa := mpa) (mgo := mgo) (us := nI u) ⟨n, hn, rfl⟩ hMB
  obtain ⟨bs, hS⟩ := best_same (xna := xna) (xnb := xnb) (xfs := xfs) (xba := xba) (xbe := xbe) (xpr := xpr) (xmx := xmx) (xsd := xsd) (xpt := xpt) (xfa := xfa) (xfb := xfb) (mmy := mmy) (mbe := mbe) (mmf := mmf) (msh := msh) (mpa := mpa) (mgo := mgo) (us := nI u) hE h1 hn hMB
  unfold f_X6_digestOfShares f_X7_mixBy
  dsimp only
  generalize f_X3_find xna xnb xfs xba xbe xpr xmx xsd xpt xfa xfb (nI n) hd wt (nI u) = X at hS ⊢
  generalize f_X7_layBest (nI n) (nI b) mmy mbe mmf am wa ww mmb msh mpa mgo (nI u) = M at hS hm ⊢
  refine ⟨?_, hm⟩
  have e1 := dg14 (b := b) hS 5 0 acc (by omega) (by omega)
  rw [nI_0] at e1
  rw [e1]
  have e2 := dg44 hST hb hu hn hS 5 0 (L_X7_mixBy_7 M 5 0 acc).2 xta xtb (by omega) (by omega)
  rw [nI_0] at e2
  rw [e2]
  have e3 := fun w7 w8 => dg149 hE hn hS 5 0 (L_X7_mixBy_29 (nI n) (nI b) am wa ww (nI u) M 5 0 (L_X7_mixBy_7 M 5 0 acc).2).2 w7 w8 (by omega) (by omega)
  rw [nI_0] at e3
  rw [e3]
theorem us_f : ∀ b : Fin 5, ∀ t : Fin 4, (f_X2_allTracers (nI b.val)) &&& (((1 : Int32) <<< ((nI t.val) &&& 31)) ^^^ (-1 : Int32)) = nI (Int32.toNatClampNeg ((f_X2_allTracers (nI b.val)) &&& (((1 : Int32) <<< ((nI t.val) &&& 31)) ^^^ (-1 : Int32)))) ∧ Int32.toNatClampNeg ((f_X2_allTracers (nI b.val)) &&& (((1 : Int32) <<< ((nI t.val) &&& 31)) ^^^ (-1 : Int32))) < 2 ^ b.val := by decide +kernel
theorem us_at {b t : Nat} (hb : b ≤ 4) (ht : t < 4) : ∃ u : Nat, u < 2 ^ b ∧ (f_X2_allTracers (nI b)) &&& (((1 : Int32) <<< ((nI t) &&& 31)) ^^^ (-1 : Int32)) = nI u := by
  obtain ⟨e1, e2⟩ := us_f ⟨b, by omega⟩ ⟨t, ht⟩
  exact ⟨_, e2, e1⟩
theorem ua_f : ∀ b : Fin 5, f_X2_allTracers (nI b.val) = nI (2 ^ b.val - 1) := by decide +kernel
theorem ua_at {b : Nat} (hb : b ≤ 4) : ∃ u : Nat, u < 2 ^ b ∧ f_X2_allTracers (nI b) = nI u := ⟨2 ^ b - 1, by have := Nat.two_pow_pos b; omega, ua_f ⟨b, by omega⟩⟩
theorem dg36 {hd wt am wa ww : Nat → Int32} {n b : Nat} (hST : ST (nI b) hd wt am wa ww) (hb : b ≤ 4) (h1 : 1 ≤ n) (hn : n ≤ 4) : ∀ (m t : Nat) (acc : Int64) (x11 x12 : Int32) (x13 x14 : Int64) (x15 x16 : Int32) (x17 : Int64) (x18 x19 x20 x21 : Nat → Int64) (x22 x23 x24 x25 : Int64) (w16 : Int32) (w17 w18 : Int64) (w19 w20 : Int32) (w22 : Nat → Int32) (w23 w24 w25 : Nat → Int64), t ≤ b → b < t + m → MB w22 → (L_X6_digest_36 (nI n) (nI b) hd wt m acc (nI t) x11 x12 x13 x14 x15 x16 x17 x18 x19 x20 x21 x22 x23 x24 x25).1 = (L_X7_digest_105b (nI n) (nI b) am wa ww m (nI t) w16 w17 w18 w19 w20 acc w22 w23 w24 w25).2.2.2.2.2.2.1 ∧ MB (L_X7_digest_105b (nI n) (nI b) am wa ww m (nI t) w16 w17 w18 w19 w20 acc w22 w23 w24 w25).2.2.2.2.2.2.2.1 := by
  intro m
  induction m with
  | zero => intro t acc x11 x12 x13 x14 x15 x16 x17 x18 x19 x20 x21 x22 x23 x24 x25 w16 w17 w18 w19 w20 w22 w23 w24 w25 h1 h2; omega
  | succ m ih =>
    intro t acc x11 x12 x13 x14 x15 x16 x17 x18 x19 x20 x21 x22 x23 x24 x25 w16 w17 w18 w19 w20 w22 w23 w24 w25 g1 g2 hMB
    rw [L_X6_digest_36, L_X7_digest_105b]
    by_cases c : t = b
    · rw [if_pos (nI_le (show b ≤ t by omega) (by omega)), if_pos (nI_le (show b ≤ t by omega) (by omega))]
      exact ⟨rfl, hMB⟩
    · rw [if_neg (nI_ge (show t < b by omega) (by omega)), if_neg (nI_ge (show t < b by omega) (by omega))]
      by_cases c2 : nI b ≤ 1
      · rw [if_pos c2, if_pos c2]
        exact ⟨rfl, hMB⟩
      · rw [if_neg c2, if_neg c2]
        dsimp only
        rw [show ((1 : Int32) <<< (nI b &&& 31)) - 1 = f_X2_allTracers (nI b) from rfl]
        obtain ⟨u, hu, eu⟩ := us_at hb (show t < 4 by omega)
        rw [eu, nI_1]
        obtain ⟨e1, e2⟩ := shares_eq (xta := x24) (xtb := x25) (xna := x13) (xnb := x14) (xfs := x15) (xba := x16) (xbe := x17) (xpr := x18) (xmx := x19) (xsd := x20) (xpt := x21) (xfa := x22) (xfb := x23) (mmy := w16) (mbe := w17) (mmf := w18) (msh := w23) (mpa := w24) (mgo := w25) (acc := acc) hST hb hu h1 hn hMB
        rw [e1]
        exact ih (t + 1) _ _ _ _ _ _ _ _ _ _ _ _ _ _ _ _ _ _ _ _ _ _ _ _ _ (by omega) (by omega) e2
theorem dg81 {N : Nat} {pc : Nat → Int32} (hN : N ≤ 47) : ∀ (m k : Nat) (acc : Int64), k ≤ N → N < k + m → (L_X6_digest_81 (nI N) pc m acc (nI k)).1 = (L_X7_digest_147 (nI N) pc m (nI k) acc).2 := by
  intro m
  induction m with
  | zero => intro k acc h1 h2; omega
  | succ m ih =>
    intro k acc h1 h2
    rw [L_X6_digest_81, L_X7_digest_147]
    by_cases c : k = N
    · rw [if_pos (nI_le (show N ≤ k by omega) (by omega)), if_pos (nI_le (show N ≤ k by omega) (by omega))]
    · rw [if_neg (nI_ge (show k < N by omega) (by omega)), if_neg (nI_ge (show k < N by omega) (by omega))]
      dsimp only
      unfold f_X7_mix
      rw [nI_1, codeAt_at hN (show k < N by omega), nI_clamp (by omega), ih (k + 1) _ (by omega) (by omega)]
theorem dg116 {xrd xal : Int64} {xpl xsc xtc msr mal : Int32} (h : ∀ q : Int32, f_X6_count xrd xal xpl xsc xtc q = f_X7_howMany xpl xsc xtc msr mal q) : ∀ (m k : Nat) (acc : Int64), k ≤ 5 → 5 < k + m → (L_X6_digest_116 xrd xal xpl xsc xtc m acc (nI k)).1 = (L_X7_digest_174 xpl xsc xtc msr mal m (nI k) acc).2 := by
  intro m
  induction m with
  | zero => intro k acc h1 h2; omega
  | succ m ih =>
    intro k acc h1 h2
    rw [L_X6_digest_116, L_X7_digest_174]
    by_cases c : k = 5
    · rw [c, if_pos (by decide), if_pos (by decide)]
    · rw [if_neg (nlt4 (show k < 5 by omega)), if_neg (nle5 (show k < 5 by omega))]
      dsimp only
      unfold f_X7_mix
      rw [nI_1, h, ih (k + 1) _ (by omega) (by omega)]
theorem dg81b {N : Nat} {pc : Nat → Int32} (hN : N ≤ 47) : ∀ (m k : Nat) (acc : Int64), k ≤ N → N < k + m → (L_X6_digest_81 (nI N) pc m acc (nI k)).1 = (L_X7_digest_147b (nI N) pc m (nI k) acc).2 := by
  intro m
  induction m with
  | zero => intro k acc h1 h2; omega
  | succ m ih =>
    intro k acc h1 h2
    rw [L_X6_digest_81, L_X7_digest_147b]
    by_cases c : k = N
    · rw [if_pos (nI_le (show N ≤ k by omega) (by omega)), if_pos (nI_le (show N ≤ k by omega) (by omega))]
    · rw [if_neg (nI_ge (show k < N by omega) (by omega)), if_neg (nI_ge (show k < N by omega) (by omega))]
      dsimp only
      unfold f_X7_mix
      rw [nI_1, codeAt_at hN (show k < N by omega), nI_clamp (by omega), ih (k + 1) _ (by omega) (by omega)]
theorem dg116b {xrd xal : Int64} {xpl xsc xtc msr mal : Int32} (h : ∀ q : Int32, f_X6_count xrd xal xpl xsc xtc q = f_X7_howMany xpl xsc xtc msr mal q) : ∀ (m k : Nat) (acc : Int64), k ≤ 5 → 5 < k + m → (L_X6_digest_116 xrd xal xpl xsc xtc m acc (nI k)).1 = (L_X7_digest_174b xpl xsc xtc msr mal m (nI k) acc).2 := by
  intro m
  induction m with
  | zero => intro k acc h1 h2; omega
  | succ m ih =>
    intro k acc h1 h2
    rw [L_X6_digest_116, L_X7_digest_174b]
    by_cases c : k = 5
    · rw [c, if_pos (by decide), if_pos (by decide)]
    · rw [if_neg (nlt4 (show k < 5 by omega)), if_neg (nle5 (show k < 5 by omega))]
      dsimp only
      unfold f_X7_mix
      rw [nI_1, h, ih (k + 1) _ (by omega) (by omega)]
theorem q_digest {N : Nat} (xrd : Int64) (xal : Int64) (xta : Int64) (xtb : Int64) (xpl : Int32) (xpc : Nat → Int32) (xns : Int32) (xnc : Int32) (xna : Int64) (xnb : Int64) (xfs : Int32) (xba : Int32) (xbe : Int64) (xpr : Nat → Int64) (xmx : Nat → Int64) (xsd : Nat → Int64) (xpt : Nat → Int64) (xfa : Int64) (xfb : Int64) (xsc : Int32) (xtc : Int32) (xhd : Nat → Int32) (xwt : Nat → Int32) (mpl : Int32) (msc : Int32) (mtc : Int32) (msr : Int32) (mal : Int32) (mmy : Int32) (mbe : Int64) (mmf : Int64) (mbs : Int32) (mco : Int32) (mpg : Nat → Int32) (mam : Nat → Int32) (mwa : Nat → Int32) (mww : Nat → Int32) (mmb : Nat → Int32) (msh : Nat → Int64) (mpa : Nat → Int64) (mgo : Nat → Int64) (h : REL N xrd xal xpl xpc xsc xtc xhd xwt mpl msc mtc msr mal mpg mam mwa mww mmb) (hN : N + 1 < 1000) : (f_X6_digest xrd xal xta xtb xpl xpc xns xnc xna xnb xfs xba xbe xpr xmx xsd xpt xfa xfb xsc xtc xhd xwt).1 = (f_X7_digest mpl msc mtc msr mal mmy mbe mmf mbs mco mpg mam mwa mww mmb msh mpa mgo).1 ∧ REL (N + 1) xrd xal xpl xpc xsc xtc xhd xwt mpl msc mtc msr mal mpg mam mwa mww ((f_X7_digest mpl msc mtc msr mal mmy mbe mmf mbs mco mpg mam mwa mww mmb msh mpa mgo).2.2.2.2.2.2.2.1) := by
  have hup := h.up hN
  obtain ⟨⟨pl, hpl, rfl⟩, rfl, rfl, rfl, rfl, ⟨n, hn, rfl⟩, ⟨b, hb, rfl⟩, h8, h9, h10, hST, h12⟩ := h
  have hE := env_of hb hST
  have hc : ∀ q : Int32, f_X6_count xrd xal (nI pl) (nI n) (nI b) q = f_X7_howMany (nI pl) (nI n) (nI b) msr mal q := by
    intro q
    unfold f_X6_count f_X7_howMany
    rw [h8.l h12.1, h9.l h12.1]
  have e81 := fun acc => dg81 (pc := xpc) hpl 48 0 acc (by omega) (by omega)
  have e81b := fun acc => dg81b (pc := xpc) hpl 48 0 acc (by omega) (by omega)
  have e116 := fun acc => dg116 hc 6 0 acc (by omega) (by omega)
  have e116b := fun acc => dg116b hc 6 0 acc (by omega) (by omega)
  rw [nI_0] at e81 e81b e116 e116b
  unfold f_X6_digest f_X7_digest
  dsimp only
  rw [mud_eq hE hn]
  generalize (L_X7_digest_48 (nI b) mwa mww 5 0 (L_X7_digest_9 (nI n) (nI b) mam 5 0 1709).2).2 = acc
  rcases Nat.eq_zero_or_pos n with q | q
  · subst q
    have eb := (nI_0_iff (show b < 2 ^ 31 by omega)).mp (h12.2 rfl)
    subst eb
    rw [if_pos (by decide), if_pos (by decide)]
    rw [L_X7_digest_105, if_pos (by decide)]
    dsimp only
    rw [e81, e116]
    exact ⟨rfl, hup⟩
  · have c0 : ¬ nI n ≤ 0 := by
      rw [show (0 : Int32) = nI 0 by decide]
      exact nI_ge q (by omega)
    rw [if_neg c0, if_neg c0]
    rw [show ((1 : Int32) <<< (nI b &&& 31)) - 1 = f_X2_allTracers (nI b) from rfl]
    obtain ⟨u, hu, eu⟩ := ua_at hb
    rw [eu]
    obtain ⟨e1, e2⟩ := shares_eq (xta := xta) (xtb := xtb) (xna := xna) (xnb := xnb) (xfs := xfs) (xba := xba) (xbe := xbe) (xpr := xpr) (xmx := xmx) (xsd := xsd) (xpt := xpt) (xfa := xfa) (xfb := xfb) (mmy := mmy) (mbe := mbe) (mmf := mmf) (msh := msh) (mpa := mpa) (mgo := mgo) (acc := acc) hST hb hu q hn h10
    generalize f_X6_digestOfShares xta xtb xna xnb xfs xba xbe xpr xmx xsd xpt xfa xfb (nI n) (nI b) xhd xwt acc (nI u) = z at e1 ⊢
    generalize f_X7_mixBy (nI n) (nI b) mmy mbe mmf acc mam mwa mww mmb msh mpa mgo (nI u) = y at e1 e2 ⊢
    rw [e1]
    obtain ⟨e3, e4⟩ := dg36 hST hb q hn 5 0 y.2.2.2.2.2.1 z.2.1 z.2.2.1 z.2.2.2.1 z.2.2.2.2.1 z.2.2.2.2.2.1 z.2.2.2.2.2.2.1 z.2.2.2.2.2.2.2.1 z.2.2.2.2.2.2.2.2.1 z.2.2.2.2.2.2.2.2.2.1 z.2.2.2.2.2.2.2.2.2.2.1 z.2.2.2.2.2.2.2.2.2.2.2.1 z.2.2.2.2.2.2.2.2.2.2.2.2.1 z.2.2.2.2.2.2.2.2.2.2.2.2.2.1 z.2.2.2.2.2.2.2.2.2.2.2.2.2.2.1 z.2.2.2.2.2.2.2.2.2.2.2.2.2.2.2 y.1 y.2.1 y.2.2.1 y.2.2.2.1 y.2.2.2.2.1 y.2.2.2.2.2.2.1 y.2.2.2.2.2.2.2.1 y.2.2.2.2.2.2.2.2.1 y.2.2.2.2.2.2.2.2.2 (by omega) (by omega) e2
    rw [nI_0] at e3 e4
    rw [e3, e81b, e116b]
    exact ⟨rfl, hup.mmb e4⟩

