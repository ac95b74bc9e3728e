theorem mN_lt4 {s j : Nat} : mN s j < 4 := by
  unfold mN
  rw [List.getD_eq_getElem?_getD]
  cases h : ((List.range 4).filter (fun i => s.testBit i))[j]? with
  | none => exact (by decide : (0 : Nat) < 4)
  | some x =>
    have h1 := List.mem_of_getElem? h
    have h2 := (List.mem_filter.mp h1).1
    exact List.mem_range.mp h2
def BX (hd wt : Nat → Int32) (us : Int32) (s : Nat) : Int64 := bX (nI s) (mN s 0) (GB hd wt us (mN s 0))
def FX (hd wt : Nat → Int32) (us : Int32) (s : Nat) : Int64 := fX (nI s) (mN s 0) (GB hd wt us (mN s 0))
def XQ (hd wt : Nat → Int32) (us : Int32) (s t : Nat) : Int64 := XP (nI s) (mN s 0) (GB hd wt us (mN s 0)) t
theorem BX_Bd {hd wt : Nat → Int32} {us : Int32} {s : Nat} (h : RG hd) (hw : RW wt) (h1 : 1 ≤ s) (hs : s < 16) : ∃ z : Int, 0 ≤ z ∧ Bd (BX hd wt us s) z 3072000000000 := by
  obtain ⟨e, _⟩ := XM (hd := hd) (wt := wt) (us := us) (mj := mN s) h1 hs (fun j _ => rfl)
  refine ⟨dI hd wt us (mN s) (kN s), dI_nn hw, ?_⟩
  unfold BX
  rw [e]
  exact Bd_D h hw (fun j => mN_lt4)
theorem FX_Bd {hd wt : Nat → Int32} {us : Int32} {s : Nat} (h : RG hd) (hw : RW wt) (h1 : 1 ≤ s) (hs : s < 16) : ∃ z : Int, (0 < BX hd wt us s → 0 ≤ z) ∧ Bd (FX hd wt us s) z 98304000000000000 := by
  obtain ⟨e, e2, _⟩ := XM (hd := hd) (wt := wt) (us := us) (mj := mN s) h1 hs (fun j _ => rfl)
  refine ⟨fI hd wt us (mN s) (kN s), fun q => ?_, ?_⟩
  · have e' : BX hd wt us s = _ := e
    rw [e', Int64.lt_iff_toInt_lt, (Bd_D h hw (fun j => mN_lt4)).toInt (by decide)] at q
    exact fI_nn hw q
  · unfold FX
    rw [e2]
    exact Bd_F h hw (fun j => mN_lt4)
theorem Bd_upL {f : Nat → Int64} {k t : Nat} {v : Int64} {B : Int} (h1 : ∃ z, Bd v z B) (h2 : ∃ z, Bd (f t) z B) : ∃ z, Bd (vp_updL f k v t) z B := by
  unfold vp_updL
  split
  · exact h1
  · exact h2
theorem XQ_Bd {hd wt : Nat → Int32} {us : Int32} {s t : Nat} (h : RG hd) (hw : RW wt) (h1 : 1 ≤ s) (hs : s < 16) (ht : t < 4) : ∃ z : Int, Bd (XQ hd wt us s t) z 12288000000000 := by
  obtain ⟨_, _, e⟩ := XM (hd := hd) (wt := wt) (us := us) (mj := mN s) h1 hs (fun j _ => rfl)
  have e := e (fun _ => 0) t ht
  have z0 : ∃ z : Int, Bd ((fun _ : Nat => (0 : Int64)) t) z 12288000000000 := ⟨0, rfl, by decide, by decide⟩
  have bD := Bd_D (us := us) (k := kN s) h hw (fun j => mN_lt4 (s := s) (j := j))
  have bP := fun i => Bd_P (us := us) (k := kN s) (i := i) h hw (fun j => mN_lt4 (s := s) (j := j))
  unfold XQ
  cases c : s.testBit t with
  | true =>
    rw [← e.1 c]
    unfold mS
    have p : ∀ i : Nat, ∃ z : Int, Bd (mP hd wt us (mN s) (kN s) i) z 12288000000000 := fun i => ⟨_, (bP i).mono (by decide)⟩
    split
    · exact Bd_upL ⟨_, bD.mono (by decide)⟩ z0
    · split
      · exact Bd_upL ⟨_, (bD.sub (bP 0)).mono (by decide)⟩ (Bd_upL (p 0) z0)
      · split
        · exact Bd_upL ⟨_, ((bD.sub (bP 0)).sub (bP 1)).mono (by decide)⟩ (Bd_upL (p 1) (Bd_upL (p 0) z0))
        · exact Bd_upL ⟨_, (((bD.sub (bP 0)).sub (bP 1)).sub (bP 2)).mono (by decide)⟩ (Bd_upL (p 2) (Bd_upL (p 1) (Bd_upL (p 0) z0)))
  | false =>
    rw [(e.2 c).2]
    exact ⟨0, rfl, by decide, by decide⟩
theorem XQ_out {hd wt : Nat → Int32} {us : Int32} {n s t : Nat} (h1 : 1 ≤ s) (hn : n ≤ 4) (hs : s < 2 ^ n) (ht : t < 4) (hnt : n ≤ t) : XQ hd wt us s t = 0 := by
  have hp : 2 ^ n ≤ 2 ^ t := Nat.pow_le_pow_right (by decide) hnt
  have hp4 : 2 ^ n ≤ 2 ^ 4 := Nat.pow_le_pow_right (by decide) hn
  obtain ⟨_, _, e⟩ := XM (hd := hd) (wt := wt) (us := us) (mj := mN s) h1 (by omega) (fun j _ => rfl)
  exact ((e (fun _ => 0) t ht).2 (Nat.testBit_lt_two_pow (by omega))).2
theorem solve_x {hd wt : Nat → Int32} {us : Int32} {pr mx sd pt : Nat → Int64} {s : Nat} (h1 : 1 ≤ s) (hs : s < 16) : (f_X0_solve (f_X0_weigh pr hd wt us) mx sd pt (nI s)).1 = nI s ∧ (f_X0_solve (f_X0_weigh pr hd wt us) mx sd pt (nI s)).2.1 = nI (mN s 0) ∧ (f_X0_solve (f_X0_weigh pr hd wt us) mx sd pt (nI s)).2.2.1 = BX hd wt us s ∧ (∀ t : Nat, t < 4 → (f_X0_solve (f_X0_weigh pr hd wt us) mx sd pt (nI s)).2.2.2.2.2.1 t = XQ hd wt us s t) ∧ (f_X0_solve (f_X0_weigh pr hd wt us) mx sd pt (nI s)).2.2.2.2.2.2 = f_X1_put (FX hd wt us s) (BX hd wt us s) := by
  have hm : mN s 0 < 4 := mN_lt4
  obtain ⟨p1, p2, p3, p4, p5, p6⟩ := solve_at (pr := f_X0_weigh pr hd wt us) (mx := mx) (sd := sd) (pt := pt) (g := GB hd wt us (mN s 0)) hm (fst_at h1 hs) (fun a b ha hb => fromBase_at (by omega) ha hb)
  refine ⟨p1, p2, p3, fun t ht => ?_, p6⟩
  unfold XQ XP
  by_cases c : t = mN s 0
  · rw [if_pos c, c]
    exact p5
  · rw [if_neg c]
    by_cases c2 : t < mN s 0
    · rw [if_pos c2]
      refine Eq.trans (congrArg _ ?_) (p4 t (by omega))
      unfold oth
      rw [if_neg (by omega)]
    · rw [if_neg c2]
      refine Eq.trans (congrArg _ ?_) (p4 (t - 1) (by omega))
      unfold oth
      rw [if_pos (by omega)]
      omega
/-- what both sides see -/
def ENV (b : Nat) (hd wt am wa ww : Nat → Int32) : Prop := b ≤ 4 ∧ RG hd ∧ RW wt ∧ (∀ k : Nat, k < 16 → hd k = am k) ∧ (∀ t : Nat, t < 4 → hd (16 + t) = wa t) ∧ (∀ t : Nat, t < 4 → wt t = ww t) ∧ ZT b hd
theorem env_of {b : Nat} {hd wt am wa ww : Nat → Int32} (hb : b ≤ 4) (h : ST (nI b) hd wt am wa ww) : ENV b hd wt am wa ww := by
  obtain ⟨g1, g2, g3, g4, g5, g6, g7⟩ := h
  refine ⟨hb, g4, g5, g1, g2, g3, fun s t hs ht hbt => ?_⟩
  unfold XV
  have hle : nI b ≤ nI t := nI_le hbt (by omega)
  by_cases c : s < 4
  · rw [g1 _ (by omega), Nat.mul_comm s 4, g6 s t c ht hle]
    rfl
  · obtain rfl : s = 4 := by omega
    rw [show 4 * 4 + t = 16 + t by omega, g2 t ht, g7 t ht hle]
    rfl
theorem lay_m {hd wt am wa ww mmb : Nat → Int32} {msh pa go : Nat → Int64} {us : Int32} {n s b : Nat} (hE : ENV b hd wt am wa ww) (hn : n ≤ 4) (h1 : 1 ≤ s) (hs : s < 2 ^ n) (hMB : MB mmb) : (f_X7_laySet (nI n) (nI b) am wa ww mmb msh pa go (nI s) us).1 = nI (kN s) ∧ (f_X7_laySet (nI n) (nI b) am wa ww mmb msh pa go (nI s) us).2.1 = BX hd wt us s ∧ (f_X7_laySet (nI n) (nI b) am wa ww mmb msh pa go (nI s) us).2.2.1 = FX hd wt us s ∧ (∀ j : Nat, j < kN s → (f_X7_laySet (nI n) (nI b) am wa ww mmb msh pa go (nI s) us).2.2.2.1 j = nI (mN s j)) ∧ (∀ t : Nat, t < n → (f_X7_laySet (nI n) (nI b) am wa ww mmb msh pa go (nI s) us).2.2.2.2.1 t = XQ hd wt us s t) ∧ MB (f_X7_laySet (nI n) (nI b) am wa ww mmb msh pa go (nI s) us).2.2.2.1 := by
  obtain ⟨hb, hr, hw, ham, hwa, hww, hz⟩ := hE
  obtain ⟨mj, sh, q1, q2, q3, q4, q5, q6, q7, q8⟩ := laySet_at (mmb := mmb) (msh := msh) (pa := pa) (go := go) (us := us) hr ham hwa hww hn hs hb hz hMB
  have hp4 : 2 ^ n ≤ 2 ^ 4 := Nat.pow_le_pow_right (by decide) hn
  obtain ⟨e1, e2, e3⟩ := XM (hd := hd) (wt := wt) (us := us) (mj := mj) h1 (by omega) q2
  have hk : kN s ≤ 4 := kN_le
  refine ⟨q4, q5.trans e1.symm, q6.trans e2.symm, fun j hj => by rw [q7 j (by omega), q2 j hj], fun t ht => ?_, ?_⟩
  · rw [q8]
    have e := e3 sh t (by omega)
    unfold XQ
    cases c : s.testBit t with
    | true => exact e.1 c
    | false => rw [(e.2 c).1, (e.2 c).2]; exact q3 t ht
  · exact (laySet_facts ⟨n, hn, rfl⟩ hMB).2
