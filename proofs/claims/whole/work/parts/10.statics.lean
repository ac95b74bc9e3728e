theorem mw_21_19 : Cond.constant RJ6 265 (1431655765) ∈ wsL_law := ck_21 _ (List.mem_of_getElem? (i := 19) rfl)
theorem mw_21_20 : Cond.constant RJ6 266 (858993459) ∈ wsL_law := ck_21 _ (List.mem_of_getElem? (i := 20) rfl)
theorem mw_21_21 : Cond.constant RJ6 267 (252645135) ∈ wsL_law := ck_21 _ (List.mem_of_getElem? (i := 21) rfl)
def f_X6_isIn (st : Int32) (nu : Int32) : Int32 := (if ((st >>> (nu &&& 31)) &&& 1) = 1 then 1 else 0)
set_option maxRecDepth 100000 in
set_option maxHeartbeats 4000000 in
theorem c_X6_isIn (l : Launch) (D : va_G) (cI cJ : ClassId) (st : Int32) (nu : Int32) : CI l yX6_isIn cX6_isIn 2 .boolean 0 D cI cJ [.int st, .int nu] [] [] (f_X6_isIn st nu) := by
  generalize hr : f_X6_isIn st nu = r
  refine fr_entryI (by decide) rfl ?_
  intro p e s m args below meth c A Q H locs hQ C hret hlk w ls hl
  have hx := C.1
  have hb := C.2.1
  have hl : lv_has ls 2 [(0, .int st), (1, .int nu)] := hl
  have hr : (if ((st >>> (nu &&& 31)) &&& 1) = 1 then 1 else 0) = r := hr
  refine lv_iload_n hx hb dX6_isIn_0 rfl (lv_at hl 0 rfl) ?_
  refine lv_iload_n hx hb dX6_isIn_1 rfl (lv_at hl 1 rfl) ?_
  refine lv_ishr hx hb dX6_isIn_2 ?_
  refine lv_iconst (v := 1) hx hb dX6_isIn_3 (by decide) ?_
  refine lv_iand hx hb dX6_isIn_4 ?_
  refine lv_iconst (v := 1) hx hb dX6_isIn_5 (by decide) ?_
  refine lv_icmp_ne (tgt := 13) hx hb dX6_isIn_6 (by decide) (fun c6_1 => ?_) (fun c6_1 => ?_)
  · have hr := (if_neg c6_1).symm.trans hr
    refine lv_iconst (v := 0) hx hb dX6_isIn_13 (by decide) ?_
    subst hr hQ
    exact fr_iret (W0 := []) C hret hlk w rfl rfl rfl dX6_isIn_14
  · have hr := (if_pos c6_1).symm.trans hr
    refine lv_iconst (v := 1) hx hb dX6_isIn_9 (by decide) ?_
    refine lv_goto (tgt := 14) hx hb dX6_isIn_10 (by decide) ?_
    subst hr hQ
    exact fr_iret (W0 := []) C hret hlk w rfl rfl rfl dX6_isIn_14
theorem b_X6_isIn (st : Int32) (nu : Int32) : (f_X6_isIn st nu) = 0 ∨ (f_X6_isIn st nu) = 1 := by
  unfold f_X6_isIn
  try dsimp only
  repeat (first | exact Or.inl rfl | exact Or.inr rfl | split)
def f_X6_isHeld (v0 : Int32) : Int32 := (if v0 < 0 then 0 else (if 20 < v0 then 0 else 1))
set_option maxRecDepth 100000 in
set_option maxHeartbeats 4000000 in
theorem c_X6_isHeld (l : Launch) (D : va_G) (cI cJ : ClassId) (v0 : Int32) : CI l yX6_isHeld cX6_isHeld 1 .boolean 0 D cI cJ [.int v0] [] [] (f_X6_isHeld v0) := by
  generalize hr : f_X6_isHeld v0 = r
  refine fr_entryI (by decide) rfl ?_
  intro p e s m args below meth c A Q H locs hQ C hret hlk w ls hl
  have hx := C.1
  have hb := C.2.1
  have hl : lv_has ls 1 [(0, .int v0)] := hl
  have hr : (if v0 < 0 then 0 else (if 20 < v0 then 0 else 1)) = r := hr
  refine lv_iload_n hx hb dX6_isHeld_0 rfl (lv_at hl 0 rfl) ?_
  refine lv_if_lt (tgt := 14) hx hb dX6_isHeld_1 (by decide) (fun c1_1 => ?_) (fun c1_1 => ?_)
  · have hr := (if_pos c1_1).symm.trans hr
    refine lv_iconst (v := 0) hx hb dX6_isHeld_14 (by decide) ?_
    subst hr hQ
    exact fr_iret (W0 := []) C hret hlk w rfl rfl rfl dX6_isHeld_15
  · have hr := (if_neg c1_1).symm.trans hr
    refine lv_iload_n hx hb dX6_isHeld_4 rfl (lv_at hl 0 rfl) ?_
    refine lv_bipush (v := 20) hx hb dX6_isHeld_5 (by decide) ?_
    refine lv_icmp_gt (tgt := 14) hx hb dX6_isHeld_7 (by decide) (fun c7_2 => ?_) (fun c7_2 => ?_)
    · have hr := (if_pos c7_2).symm.trans hr
      refine lv_iconst (v := 0) hx hb dX6_isHeld_14 (by decide) ?_
      subst hr hQ
      exact fr_iret (W0 := []) C hret hlk w rfl rfl rfl dX6_isHeld_15
    · have hr := (if_neg c7_2).symm.trans hr
      refine lv_iconst (v := 1) hx hb dX6_isHeld_10 (by decide) ?_
      refine lv_goto (tgt := 15) hx hb dX6_isHeld_11 (by decide) ?_
      subst hr hQ
      exact fr_iret (W0 := []) C hret hlk w rfl rfl rfl dX6_isHeld_15
theorem b_X6_isHeld (v0 : Int32) : (f_X6_isHeld v0) = 0 ∨ (f_X6_isHeld v0) = 1 := by
  unfold f_X6_isHeld
  try dsimp only
  repeat (first | exact Or.inl rfl | exact Or.inr rfl | split)
def f_X6_isPart (v0 : Int32) : Int32 := (if v0 = 0 then 1 else (if v0 = 1 then 1 else 0))
set_option maxRecDepth 100000 in
set_option maxHeartbeats 4000000 in
theorem c_X6_isPart (l : Launch) (D : va_G) (cI cJ : ClassId) (v0 : Int32) : CI l yX6_isPart cX6_isPart 1 .boolean 0 D cI cJ [.int v0] [] [] (f_X6_isPart v0) := by
  generalize hr : f_X6_isPart v0 = r
  refine fr_entryI (by decide) rfl ?_
  intro p e s m args below meth c A Q H locs hQ C hret hlk w ls hl
  have hx := C.1
  have hb := C.2.1
  have hl : lv_has ls 1 [(0, .int v0)] := hl
  have hr : (if v0 = 0 then 1 else (if v0 = 1 then 1 else 0)) = r := hr
  refine lv_iload_n hx hb dX6_isPart_0 rfl (lv_at hl 0 rfl) ?_
  refine lv_if_eq (tgt := 9) hx hb dX6_isPart_1 (by decide) (fun c1_1 => ?_) (fun c1_1 => ?_)
  · have hr := (if_pos c1_1).symm.trans hr
    refine lv_iconst (v := 1) hx hb dX6_isPart_9 (by decide) ?_
    refine lv_goto (tgt := 14) hx hb dX6_isPart_10 (by decide) ?_
    subst hr hQ
    exact fr_iret (W0 := []) C hret hlk w rfl rfl rfl dX6_isPart_14
  · have hr := (if_neg c1_1).symm.trans hr
    refine lv_iload_n hx hb dX6_isPart_4 rfl (lv_at hl 0 rfl) ?_
    refine lv_iconst (v := 1) hx hb dX6_isPart_5 (by decide) ?_
    refine lv_icmp_ne (tgt := 13) hx hb dX6_isPart_6 (by decide) (fun c6_2 => ?_) (fun c6_2 => ?_)
    · have hr := (if_neg c6_2).symm.trans hr
      refine lv_iconst (v := 0) hx hb dX6_isPart_13 (by decide) ?_
      subst hr hQ
      exact fr_iret (W0 := []) C hret hlk w rfl rfl rfl dX6_isPart_14
    · have hr := (if_pos c6_2).symm.trans hr
      refine lv_iconst (v := 1) hx hb dX6_isPart_9 (by decide) ?_
      refine lv_goto (tgt := 14) hx hb dX6_isPart_10 (by decide) ?_
      subst hr hQ
      exact fr_iret (W0 := []) C hret hlk w rfl rfl rfl dX6_isPart_14
theorem b_X6_isPart (v0 : Int32) : (f_X6_isPart v0) = 0 ∨ (f_X6_isPart v0) = 1 := by
  unfold f_X6_isPart
  try dsimp only
  repeat (first | exact Or.inl rfl | exact Or.inr rfl | split)
def f_X6_isMultiple (nn : Int32) (dd : Int32) : Int32 := (if dd ≤ 0 then 0 else (if (nn - nn / dd * dd) = 0 then 1 else 0))
set_option maxRecDepth 100000 in
set_option maxHeartbeats 4000000 in
theorem c_X6_isMultiple (l : Launch) (D : va_G) (cI cJ : ClassId) (nn : Int32) (dd : Int32) : CI l yX6_isMultiple cX6_isMultiple 2 .boolean 0 D cI cJ [.int nn, .int dd] [] [] (f_X6_isMultiple nn dd) := by
  generalize hr : f_X6_isMultiple nn dd = r
  refine fr_entryI (by decide) rfl ?_
  intro p e s m args below meth c A Q H locs hQ C hret hlk w ls hl
  have hx := C.1
  have hb := C.2.1
  have hl : lv_has ls 2 [(0, .int nn), (1, .int dd)] := hl
  have hr : (if dd ≤ 0 then 0 else (if (nn - nn / dd * dd) = 0 then 1 else 0)) = r := hr
  refine lv_iload_n hx hb dX6_isMultiple_0 rfl (lv_at hl 1 rfl) ?_
  refine lv_if_le (tgt := 14) hx hb dX6_isMultiple_1 (by decide) (fun c1_1 => ?_) (fun c1_1 => ?_)
  · have hr := (if_pos c1_1).symm.trans hr
    refine lv_iconst (v := 0) hx hb dX6_isMultiple_14 (by decide) ?_
    subst hr hQ
    exact fr_iret (W0 := []) C hret hlk w rfl rfl rfl dX6_isMultiple_15
  · have hr := (if_neg c1_1).symm.trans hr
    refine lv_iload_n hx hb dX6_isMultiple_4 rfl (lv_at hl 0 rfl) ?_
    refine lv_iload_n hx hb dX6_isMultiple_5 rfl (lv_at hl 1 rfl) ?_
    refine lv_irem hx hb dX6_isMultiple_6 (ne0_gt (by assumption)) ?_
    refine lv_if_ne (tgt := 14) hx hb dX6_isMultiple_7 (by decide) (fun c7_2 => ?_) (fun c7_2 => ?_)
    · have hr := (if_neg c7_2).symm.trans hr
      refine lv_iconst (v := 0) hx hb dX6_isMultiple_14 (by decide) ?_
      subst hr hQ
      exact fr_iret (W0 := []) C hret hlk w rfl rfl rfl dX6_isMultiple_15
    · have hr := (if_pos c7_2).symm.trans hr
      refine lv_iconst (v := 1) hx hb dX6_isMultiple_10 (by decide) ?_
      refine lv_goto (tgt := 15) hx hb dX6_isMultiple_11 (by decide) ?_
      subst hr hQ
      exact fr_iret (W0 := []) C hret hlk w rfl rfl rfl dX6_isMultiple_15
theorem b_X6_isMultiple (nn : Int32) (dd : Int32) : (f_X6_isMultiple nn dd) = 0 ∨ (f_X6_isMultiple nn dd) = 1 := by
  unfold f_X6_isMultiple
  try dsimp only
  repeat (first | exact Or.inl rfl | exact Or.inr rfl | split)
def f_X6_quotient (nn : Int32) (dd : Int32) : Int32 := (if dd ≤ 0 then 0 else nn / dd)
set_option maxRecDepth 100000 in
set_option maxHeartbeats 4000000 in
theorem c_X6_quotient (l : Launch) (D : va_G) (cI cJ : ClassId) (nn : Int32) (dd : Int32) : CI l yX6_quotient cX6_quotient 2 .int 0 D cI cJ [.int nn, .int dd] [] [] (f_X6_quotient nn dd) := by
  generalize hr : f_X6_quotient nn dd = r
  refine fr_entryI (by decide) rfl ?_
  intro p e s m args below meth c A Q H locs hQ C hret hlk w ls hl
  have hx := C.1
  have hb := C.2.1
  have hl : lv_has ls 2 [(0, .int nn), (1, .int dd)] := hl
  have hr : (if dd ≤ 0 then 0 else nn / dd) = r := hr
  refine lv_iload_n hx hb dX6_quotient_0 rfl (lv_at hl 1 rfl) ?_
  refine lv_if_le (tgt := 10) hx hb dX6_quotient_1 (by decide) (fun c1_1 => ?_) (fun c1_1 => ?_)
  · have hr := (if_pos c1_1).symm.trans hr
    refine lv_iconst (v := 0) hx hb dX6_quotient_10 (by decide) ?_
    subst hr hQ
    exact fr_iret (W0 := []) C hret hlk w rfl rfl rfl dX6_quotient_11
  · have hr := (if_neg c1_1).symm.trans hr
    refine lv_iload_n hx hb dX6_quotient_4 rfl (lv_at hl 0 rfl) ?_
    refine lv_iload_n hx hb dX6_quotient_5 rfl (lv_at hl 1 rfl) ?_
    refine lv_idiv hx hb dX6_quotient_6 (ne0_gt (by assumption)) ?_
    refine lv_goto (tgt := 11) hx hb dX6_quotient_7 (by decide) ?_
    subst hr hQ
    exact fr_iret (W0 := []) C hret hlk w rfl rfl rfl dX6_quotient_11
def L_X6_powerOfTen_4 (ex : Int32) : Nat → Int32 → Int32 → Int32 × Int32
  | 0, _, _ => (0, 0)
  | n4 + 1, i1, i2 => (if 4 ≤ i2 then (i1, i2) else (if ex ≤ i2 then (i1, i2) else L_X6_powerOfTen_4 ex n4 (i1 * 10) (i2 + 1)))
def f_X6_powerOfTen (ex : Int32) : Int32 := ((fun (y4 : Int32 × Int32) => y4.1) (L_X6_powerOfTen_4 ex 5 1 0))
set_option maxRecDepth 100000 in
set_option maxHeartbeats 4000000 in
theorem c_X6_powerOfTen (l : Launch) (D : va_G) (cI cJ : ClassId) (ex : Int32) : CI l yX6_powerOfTen cX6_powerOfTen 3 .int 0 D cI cJ [.int ex] [] [] (f_X6_powerOfTen ex) := by
  generalize hr : f_X6_powerOfTen ex = r
  refine fr_entryI (by decide) rfl ?_
  intro p e s m args below meth c A Q H locs hQ C hret hlk w ls hl
  have hx := C.1
  have hb := C.2.1
  have hl : lv_has ls 3 [(0, .int ex)] := hl
  have hr : ((fun (y4 : Int32 × Int32) => y4.1) (L_X6_powerOfTen_4 ex 5 1 0)) = r := hr
  refine lv_iconst (v := 1) hx hb dX6_powerOfTen_0 (by decide) ?_
  refine lv_istore_n (lv' := [(1, .int 1), (0, .int ex)]) hx hb dX6_powerOfTen_1 rfl hl (by decide) rfl (fun ls hl => ?_)
  refine lv_iconst (v := 0) hx hb dX6_powerOfTen_2 (by decide) ?_
  refine lv_istore_n (lv' := [(2, .int 0), (1, .int 1), (0, .int ex)]) hx hb dX6_powerOfTen_3 rfl hl (by decide) rfl (fun ls hl => ?_)
  obtain ⟨y4, hy4⟩ : ∃ y, y = L_X6_powerOfTen_4 ex 5 1 0 := ⟨_, rfl⟩
  have hr : y4.1 = r := by rw [hy4]; exact hr
  have X4 : ∀ (H : Heap) (locs : List Loc), Wd D A s.heap H locs [] → ∀ (ls : Array Slot), lv_has ls 3 [(0, .int ex), (1, .int y4.1), (2, .int y4.2)] → W p l e (rl 0) s m args below meth c H locs 0 0 Q (F0 m 25 ls []) := by
    intro H locs w ls hl
    refine lv_iload_n hx hb dX6_powerOfTen_25 rfl (lv_at hl 1 rfl) ?_
    subst hr hQ
    exact fr_iret (W0 := []) C hret hlk w rfl rfl rfl dX6_powerOfTen_26
  have LP4 : ∀ (n4 : Nat) (k4 : Nat) (i1 : Int32) (i2 : Int32), i2 = nI k4 → k4 ≤ 4 → 4 < k4 + n4 → L_X6_powerOfTen_4 ex n4 i1 i2 = y4 → ∀ (H : Heap) (locs : List Loc), Wd D A s.heap H locs [] → ∀ (ls : Array Slot), lv_has ls 3 [(0, .int ex), (1, .int i1), (2, .int i2)] → W p l e (rl 0) s m args below meth c H locs 0 0 Q (F0 m 4 ls []) := by
    clear hr
    intro n4
    induction n4 with
    | zero => intro k4 i1 i2 hk4 hkN4 hn4; exact absurd hn4 (by omega)
    | succ n4 ih4 =>
      intro k4 i1 i2 hk4 hkN4 hn4 hr H locs w ls hl
      have hr : (if 4 ≤ i2 then (i1, i2) else (if ex ≤ i2 then (i1, i2) else L_X6_powerOfTen_4 ex n4 (i1 * 10) (i2 + 1))) = y4 := hr
      refine lv_iload_n hx hb dX6_powerOfTen_4 rfl (lv_at hl 2 rfl) ?_
      refine lv_iconst (v := 4) hx hb dX6_powerOfTen_5 (by decide) ?_
      refine lv_icmp_ge (tgt := 25) hx hb dX6_powerOfTen_6 (by decide) (fun c6_3 => ?_) (fun c6_3 => ?_)
      · have hr := (if_pos c6_3).symm.trans hr
        subst hr
        exact X4 H locs w ls (lv_sub hl [0, 1, 2] rfl)
      · have hr := (if_neg c6_3).symm.trans hr
        have hkl4 := kl_of hk4 hkN4 (N := 4) (by decide) (by omega) c6_3
        refine lv_iload_n hx hb dX6_powerOfTen_9 rfl (lv_at hl 2 rfl) ?_
        refine lv_iload_n hx hb dX6_powerOfTen_10 rfl (lv_at hl 0 rfl) ?_
        refine lv_icmp_ge (tgt := 25) hx hb dX6_powerOfTen_11 (by decide) (fun c11_4 => ?_) (fun c11_4 => ?_)
        · have hr := (if_pos c11_4).symm.trans hr
          subst hr
          exact X4 H locs w ls (lv_sub hl [0, 1, 2] rfl)
        · have hr := (if_neg c11_4).symm.trans hr
          refine lv_iload_n hx hb dX6_powerOfTen_14 rfl (lv_at hl 1 rfl) ?_
          refine lv_bipush (v := 10) hx hb dX6_powerOfTen_15 (by decide) ?_
          refine lv_imul hx hb dX6_powerOfTen_17 ?_
          refine lv_istore_n (lv' := [(1, .int (i1 * 10)), (0, .int ex), (2, .int i2)]) hx hb dX6_powerOfTen_18 rfl hl (by decide) rfl (fun ls hl => ?_)
          refine lv_iinc (v := i2 + 1) (lv' := [(2, .int (i2 + 1)), (1, .int (i1 * 10)), (0, .int ex)]) hx hb dX6_powerOfTen_19 hl (k := 2) rfl rfl (by decide) rfl (fun ls hl => ?_)
          refine lv_goto (tgt := 4) hx hb dX6_powerOfTen_22 (by decide) ?_
          exact ih4 (k4 + 1) (i1 * 10) (i2 + 1) (by rw [hk4]; exact nI_1 k4) (by omega) (by omega) hr H locs w ls (lv_sub hl [2, 1, 0] rfl)
  exact LP4 5 0 1 0 (by decide) (by omega) (by omega) hy4.symm H locs w ls (lv_sub hl [2, 1, 0] rfl)
def L_X6_figureSum_6  : Nat → Int32 → Int32 → Int32 → Int32 × Int32 × Int32
  | 0, _, _, _ => (0, 0, 0)
  | n6 + 1, i1, i2, i3 => (if 4 ≤ i3 then (i1, i2, i3) else L_X6_figureSum_6  n6 (i1 + (i2 - i2 / 10 * 10)) (i2 / 10) (i3 + 1))
def f_X6_figureSum (pa : Int32) : Int32 := ((fun (y6 : Int32 × Int32 × Int32) => y6.1) (L_X6_figureSum_6 5 0 pa 0))
set_option maxRecDepth 100000 in
set_option maxHeartbeats 4000000 in
theorem c_X6_figureSum (l : Launch) (D : va_G) (cI cJ : ClassId) (pa : Int32) : CI l yX6_figureSum cX6_figureSum 4 .int 0 D cI cJ [.int pa] [] [] (f_X6_figureSum pa) := by
  generalize hr : f_X6_figureSum pa = r
  refine fr_entryI (by decide) rfl ?_
  intro p e s m args below meth c A Q H locs hQ C hret hlk w ls hl
  have hx := C.1
  have hb := C.2.1
  have hl : lv_has ls 4 [(0, .int pa)] := hl
  have hr : ((fun (y6 : Int32 × Int32 × Int32) => y6.1) (L_X6_figureSum_6 5 0 pa 0)) = r := hr
  refine lv_iconst (v := 0) hx hb dX6_figureSum_0 (by decide) ?_
  refine lv_istore_n (lv' := [(1, .int 0), (0, .int pa)]) hx hb dX6_figureSum_1 rfl hl (by decide) rfl (fun ls hl => ?_)
  refine lv_iload_n hx hb dX6_figureSum_2 rfl (lv_at hl 1 rfl) ?_
  refine lv_istore_n (lv' := [(2, .int pa), (1, .int 0), (0, .int pa)]) hx hb dX6_figureSum_3 rfl hl (by decide) rfl (fun ls hl => ?_)
  refine lv_iconst (v := 0) hx hb dX6_figureSum_4 (by decide) ?_
  refine lv_istore_n (lv' := [(3, .int 0), (2, .int pa), (1, .int 0), (0, .int pa)]) hx hb dX6_figureSum_5 rfl hl (by decide) rfl (fun ls hl => ?_)
  obtain ⟨y6, hy6⟩ : ∃ y, y = L_X6_figureSum_6 5 0 pa 0 := ⟨_, rfl⟩
  have hr : y6.1 = r := by rw [hy6]; exact hr
  have X6 : ∀ (H : Heap) (locs : List Loc), Wd D A s.heap H locs [] → ∀ (ls : Array Slot), lv_has ls 4 [(0, .int pa), (1, .int y6.1), (2, .int y6.2.1), (3, .int y6.2.2)] → W p l e (rl 0) s m args below meth c H locs 0 0 Q (F0 m 29 ls []) := by
    intro H locs w ls hl
    refine lv_iload_n hx hb dX6_figureSum_29 rfl (lv_at hl 1 rfl) ?_
    subst hr hQ
    exact fr_iret (W0 := []) C hret hlk w rfl rfl rfl dX6_figureSum_30
  have LP6 : ∀ (n6 : Nat) (k6 : Nat) (i1 : Int32) (i2 : Int32) (i3 : Int32), i3 = nI k6 → k6 ≤ 4 → 4 < k6 + n6 → L_X6_figureSum_6 n6 i1 i2 i3 = y6 → ∀ (H : Heap) (locs : List Loc), Wd D A s.heap H locs [] → ∀ (ls : Array Slot), lv_has ls 4 [(0, .int pa), (1, .int i1), (2, .int i2), (3, .int i3)] → W p l e (rl 0) s m args below meth c H locs 0 0 Q (F0 m 6 ls []) := by
    clear hr
    intro n6
    induction n6 with
    | zero => intro k6 i1 i2 i3 hk6 hkN6 hn6; exact absurd hn6 (by omega)
    | succ n6 ih6 =>
      intro k6 i1 i2 i3 hk6 hkN6 hn6 hr H locs w ls hl
      have hr : (if 4 ≤ i3 then (i1, i2, i3) else L_X6_figureSum_6  n6 (i1 + (i2 - i2 / 10 * 10)) (i2 / 10) (i3 + 1)) = y6 := hr
      refine lv_iload_n hx hb dX6_figureSum_6 rfl (lv_at hl 3 rfl) ?_
      refine lv_iconst (v := 4) hx hb dX6_figureSum_7 (by decide) ?_
      refine lv_icmp_ge (tgt := 29) hx hb dX6_figureSum_8 (by decide) (fun c8_4 => ?_) (fun c8_4 => ?_)
      · have hr := (if_pos c8_4).symm.trans hr
        subst hr
        exact X6 H locs w ls (lv_sub hl [0, 1, 2, 3] rfl)
      · have hr := (if_neg c8_4).symm.trans hr
        have hkl6 := kl_of hk6 hkN6 (N := 4) (by decide) (by omega) c8_4
        refine lv_iload_n hx hb dX6_figureSum_11 rfl (lv_at hl 1 rfl) ?_
        refine lv_iload_n hx hb dX6_figureSum_12 rfl (lv_at hl 2 rfl) ?_
        refine lv_bipush (v := 10) hx hb dX6_figureSum_13 (by decide) ?_
        refine lv_irem hx hb dX6_figureSum_15 (by decide) ?_
        refine lv_iadd hx hb dX6_figureSum_16 ?_
        refine lv_istore_n (lv' := [(1, .int (i1 + (i2 - i2 / 10 * 10))), (0, .int pa), (2, .int i2), (3, .int i3)]) hx hb dX6_figureSum_17 rfl hl (by decide) rfl (fun ls hl => ?_)
        refine lv_iload_n hx hb dX6_figureSum_18 rfl (lv_at hl 2 rfl) ?_
        refine lv_bipush (v := 10) hx hb dX6_figureSum_19 (by decide) ?_
        refine lv_idiv hx hb dX6_figureSum_21 (by decide) ?_
        refine lv_istore_n (lv' := [(2, .int (i2 / 10)), (1, .int (i1 + (i2 - i2 / 10 * 10))), (0, .int pa), (3, .int i3)]) hx hb dX6_figureSum_22 rfl hl (by decide) rfl (fun ls hl => ?_)
        refine lv_iinc (v := i3 + 1) (lv' := [(3, .int (i3 + 1)), (2, .int (i2 / 10)), (1, .int (i1 + (i2 - i2 / 10 * 10))), (0, .int pa)]) hx hb dX6_figureSum_23 hl (k := 3) rfl rfl (by decide) rfl (fun ls hl => ?_)
        refine lv_goto (tgt := 6) hx hb dX6_figureSum_26 (by decide) ?_
        exact ih6 (k6 + 1) (i1 + (i2 - i2 / 10 * 10)) (i2 / 10) (i3 + 1) (by rw [hk6]; exact nI_1 k6) (by omega) (by omega) hr H locs w ls (lv_sub hl [3, 2, 1, 0] rfl)
  exact LP6 5 0 0 pa 0 (by decide) (by omega) (by omega) hy6.symm H locs w ls (lv_sub hl [3, 2, 1, 0] rfl)
def f_X2_isPlace (ro : Int32) (tr : Int32) : Int32 := (if ro < 0 then 0 else (if 5 ≤ ro then 0 else (if tr < 0 then 0 else (if 4 ≤ tr then 0 else 1))))
set_option maxRecDepth 100000 in
set_option maxHeartbeats 4000000 in
theorem c_X2_isPlace (l : Launch) (D : va_G) (cI cJ : ClassId) (ro : Int32) (tr : Int32) : CI l yX2_isPlace cX2_isPlace 2 .boolean 0 D cI cJ [.int ro, .int tr] [] [] (f_X2_isPlace ro tr) := by
  generalize hr : f_X2_isPlace ro tr = r
  refine fr_entryI (by decide) rfl ?_
  intro p e s m args below meth c A Q H locs hQ C hret hlk w ls hl
  have hx := C.1
  have hb := C.2.1
  have hl : lv_has ls 2 [(0, .int ro), (1, .int tr)] := hl
  have hr : (if ro < 0 then 0 else (if 5 ≤ ro then 0 else (if tr < 0 then 0 else (if 4 ≤ tr then 0 else 1)))) = r := hr
  refine lv_iload_n hx hb dX2_isPlace_0 rfl (lv_at hl 0 rfl) ?_
  refine lv_if_lt (tgt := 22) hx hb dX2_isPlace_1 (by decide) (fun c1_1 => ?_) (fun c1_1 => ?_)
  · have hr := (if_pos c1_1).symm.trans hr
    refine lv_iconst (v := 0) hx hb dX2_isPlace_22 (by decide) ?_
    subst hr hQ
    exact fr_iret (W0 := []) C hret hlk w rfl rfl rfl dX2_isPlace_23
  · have hr := (if_neg c1_1).symm.trans hr
    refine lv_iload_n hx hb dX2_isPlace_4 rfl (lv_at hl 0 rfl) ?_
    refine lv_iconst (v := 5) hx hb dX2_isPlace_5 (by decide) ?_
    refine lv_icmp_ge (tgt := 22) hx hb dX2_isPlace_6 (by decide) (fun c6_2 => ?_) (fun c6_2 => ?_)
    · have hr := (if_pos c6_2).symm.trans hr
      refine lv_iconst (v := 0) hx hb dX2_isPlace_22 (by decide) ?_
      subst hr hQ
      exact fr_iret (W0 := []) C hret hlk w rfl rfl rfl dX2_isPlace_23
    · have hr := (if_neg c6_2).symm.trans hr
      refine lv_iload_n hx hb dX2_isPlace_9 rfl (lv_at hl 1 rfl) ?_
      refine lv_if_lt (tgt := 22) hx hb dX2_isPlace_10 (by decide) (fun c10_3 => ?_) (fun c10_3 => ?_)
      · have hr := (if_pos c10_3).symm.trans hr
        refine lv_iconst (v := 0) hx hb dX2_isPlace_22 (by decide) ?_
        subst hr hQ
        exact fr_iret (W0 := []) C hret hlk w rfl rfl rfl dX2_isPlace_23
      · have hr := (if_neg c10_3).symm.trans hr
        refine lv_iload_n hx hb dX2_isPlace_13 rfl (lv_at hl 1 rfl) ?_
        refine lv_iconst (v := 4) hx hb dX2_isPlace_14 (by decide) ?_
        refine lv_icmp_ge (tgt := 22) hx hb dX2_isPlace_15 (by decide) (fun c15_4 => ?_) (fun c15_4 => ?_)
        · have hr := (if_pos c15_4).symm.trans hr
          refine lv_iconst (v := 0) hx hb dX2_isPlace_22 (by decide) ?_
          subst hr hQ
          exact fr_iret (W0 := []) C hret hlk w rfl rfl rfl dX2_isPlace_23
        · have hr := (if_neg c15_4).symm.trans hr
          refine lv_iconst (v := 1) hx hb dX2_isPlace_18 (by decide) ?_
          refine lv_goto (tgt := 23) hx hb dX2_isPlace_19 (by decide) ?_
          subst hr hQ
          exact fr_iret (W0 := []) C hret hlk w rfl rfl rfl dX2_isPlace_23
theorem b_X2_isPlace (ro : Int32) (tr : Int32) : (f_X2_isPlace ro tr) = 0 ∨ (f_X2_isPlace ro tr) = 1 := by
  unfold f_X2_isPlace
  try dsimp only
  repeat (first | exact Or.inl rfl | exact Or.inr rfl | split)
def L_X1_commonDivisor_9  : Nat → Int64 → Int64 → Int32 → Int64 × Int64 × Int32
  | 0, _, _, _ => (0, 0, 0)
  | n9 + 1, i1, i2, i3 => (if 200 ≤ i3 then (i1, i2, i3) else (if i2 ≤ 0 then (i1, i2, i3) else L_X1_commonDivisor_9  n9 i2 (i1 - i1 / i2 * i2) (i3 + 1)))
def f_X1_commonDivisor (m0 : Int64) (n0 : Int64) : Int64 := ((fun (y9 : Int64 × Int64 × Int32) => y9.1) (L_X1_commonDivisor_9 201 m0 n0 0))
set_option maxRecDepth 100000 in
set_option maxHeartbeats 4000000 in
theorem c_X1_commonDivisor (l : Launch) (D : va_G) (cI cJ : ClassId) (m0 : Int64) (n0 : Int64) : CL l yX1_commonDivisor cX1_commonDivisor 11 0 D cI cJ [.long m0, .long n0] [] [] (f_X1_commonDivisor m0 n0) := by
  generalize hr : f_X1_commonDivisor m0 n0 = r
  refine fr_entryL (by decide) rfl ?_
  intro p e s m args below meth c A Q H locs hQ C hret hlk w ls hl
  have hx := C.1
  have hb := C.2.1
  have hl : lv_has ls 11 [(0, .long m0), (2, .long n0)] := hl
  have hr : ((fun (y9 : Int64 × Int64 × Int32) => y9.1) (L_X1_commonDivisor_9 201 m0 n0 0)) = r := hr
  refine lv_lload_n hx hb dX1_commonDivisor_0 rfl (lv_at hl 0 rfl) ?_
  refine lv_lstore (lv' := [(4, .long m0), (0, .long m0), (2, .long n0)]) hx hb dX1_commonDivisor_1 hl (by decide) rfl (fun ls hl => ?_)
  refine lv_lload_n hx hb dX1_commonDivisor_3 rfl (lv_at hl 2 rfl) ?_
  refine lv_lstore (lv' := [(6, .long n0), (4, .long m0), (0, .long m0), (2, .long n0)]) hx hb dX1_commonDivisor_4 hl (by decide) rfl (fun ls hl => ?_)
  refine lv_iconst (v := 0) hx hb dX1_commonDivisor_6 (by decide) ?_
  refine lv_istore (lv' := [(8, .int 0), (6, .long n0), (4, .long m0), (0, .long m0), (2, .long n0)]) hx hb dX1_commonDivisor_7 hl (by decide) rfl (fun ls hl => ?_)
  obtain ⟨y9, hy9⟩ : ∃ y, y = L_X1_commonDivisor_9 201 m0 n0 0 := ⟨_, rfl⟩
  have hr : y9.1 = r := by rw [hy9]; exact hr
  have X9 : ∀ (H : Heap) (locs : List Loc), Wd D A s.heap H locs [] → ∀ (ls : Array Slot), lv_has ls 11 [(0, .long m0), (2, .long n0), (4, .long y9.1), (6, .long y9.2.1), (8, .int y9.2.2)] → W p l e (rl 0) s m args below meth c H locs 0 0 Q (F0 m 45 ls []) := by
    intro H locs w ls hl
    refine lv_lload hx hb dX1_commonDivisor_45 (lv_at hl 2 rfl) ?_
    subst hr hQ
    exact fr_lret C hret hlk w rfl rfl dX1_commonDivisor_47
  have LP9 : ∀ (n9 : Nat) (k9 : Nat) (i1 : Int64) (i2 : Int64) (i3 : Int32), i3 = nI k9 → k9 ≤ 200 → 200 < k9 + n9 → L_X1_commonDivisor_9 n9 i1 i2 i3 = y9 → ∀ (H : Heap) (locs : List Loc), Wd D A s.heap H locs [] → ∀ (ls : Array Slot), lv_has ls 11 [(0, .long m0), (2, .long n0), (4, .long i1), (6, .long i2), (8, .int i3)] → W p l e (rl 0) s m args below meth c H locs 0 0 Q (F0 m 9 ls []) := by
    clear hr
    intro n9
    induction n9 with
    | zero => intro k9 i1 i2 i3 hk9 hkN9 hn9; exact absurd hn9 (by omega)
    | succ n9 ih9 =>
      intro k9 i1 i2 i3 hk9 hkN9 hn9 hr H locs w ls hl
      have hr : (if 200 ≤ i3 then (i1, i2, i3) else (if i2 ≤ 0 then (i1, i2, i3) else L_X1_commonDivisor_9  n9 i2 (i1 - i1 / i2 * i2) (i3 + 1))) = y9 := hr
      refine lv_iload hx hb dX1_commonDivisor_9 (lv_at hl 4 rfl) ?_
      refine lv_sipush (v := 200) hx hb dX1_commonDivisor_11 (by decide) ?_
      refine lv_icmp_ge (tgt := 45) hx hb dX1_commonDivisor_14 (by decide) (fun c14_4 => ?_) (fun c14_4 => ?_)
      · have hr := (if_pos c14_4).symm.trans hr
        subst hr
        exact X9 H locs w ls (lv_sub hl [0, 1, 2, 3, 4] rfl)
      · have hr := (if_neg c14_4).symm.trans hr
        have hkl9 := kl_of hk9 hkN9 (N := 200) (by decide) (by omega) c14_4
        refine lv_lload hx hb dX1_commonDivisor_17 (lv_at hl 3 rfl) ?_
        refine lv_lconst (v := 0) hx hb dX1_commonDivisor_19 (by decide) ?_
        refine fr_lle (tgt := 45) hx hb dX1_commonDivisor_20 dX1_commonDivisor_21 (by decide) (fun c21_5 => ?_) (fun c21_5 => ?_)
        · have hr := (if_pos c21_5).symm.trans hr
          subst hr
          exact X9 H locs w ls (lv_sub hl [0, 1, 2, 3, 4] rfl)
        · have hr := (if_neg c21_5).symm.trans hr
          refine lv_lload hx hb dX1_commonDivisor_24 (lv_at hl 2 rfl) ?_
          refine lv_lload hx hb dX1_commonDivisor_26 (lv_at hl 3 rfl) ?_
          refine lv_lrem hx hb dX1_commonDivisor_28 (ne0_lgt (by assumption)) ?_
          refine lv_lstore (lv' := [(9, .long (i1 - i1 / i2 * i2)), (0, .long m0), (2, .long n0), (4, .long i1), (6, .long i2), (8, .int i3)]) hx hb dX1_commonDivisor_29 hl (by decide) rfl (fun ls hl => ?_)
          refine lv_lload hx hb dX1_commonDivisor_31 (lv_at hl 4 rfl) ?_
          refine lv_lstore (lv' := [(4, .long i2), (9, .long (i1 - i1 / i2 * i2)), (0, .long m0), (2, .long n0), (6, .long i2), (8, .int i3)]) hx hb dX1_commonDivisor_33 hl (by decide) rfl (fun ls hl => ?_)
          refine lv_lload hx hb dX1_commonDivisor_35 (lv_at hl 1 rfl) ?_
          refine lv_lstore (lv' := [(6, .long (i1 - i1 / i2 * i2)), (4, .long i2), (9, .long (i1 - i1 / i2 * i2)), (0, .long m0), (2, .long n0), (8, .int i3)]) hx hb dX1_commonDivisor_37 hl (by decide) rfl (fun ls hl => ?_)
          refine lv_iinc (v := i3 + 1) (lv' := [(8, .int (i3 + 1)), (6, .long (i1 - i1 / i2 * i2)), (4, .long i2), (9, .long (i1 - i1 / i2 * i2)), (0, .long m0), (2, .long n0)]) hx hb dX1_commonDivisor_39 hl (k := 5) rfl rfl (by decide) rfl (fun ls hl => ?_)
          refine lv_goto (tgt := 9) hx hb dX1_commonDivisor_42 (by decide) ?_
          exact ih9 (k9 + 1) i2 (i1 - i1 / i2 * i2) (i3 + 1) (by rw [hk9]; exact nI_1 k9) (by omega) (by omega) hr H locs w ls (lv_sub hl [4, 5, 2, 1, 0] rfl)
  exact LP9 201 0 m0 n0 0 (by decide) (by omega) (by omega) hy9.symm H locs w ls (lv_sub hl [3, 4, 2, 1, 0] rfl)
def f_J13_compare_74951 (q1 : Int64) (q2 : Int64) : Int32 := (if q2 ≤ q1 then (if q1 = q2 then 0 else 1) else (-1))
set_option maxRecDepth 100000 in
set_option maxHeartbeats 4000000 in
theorem c_J13_compare_74951 (l : Launch) (D : va_G) (cI cJ : ClassId) (q1 : Int64) (q2 : Int64) : CI l yJ13_compare_74951 cJ13_compare_74951 4 .int 0 D cI cJ [.long q1, .long q2] [] [] (f_J13_compare_74951 q1 q2) := by
  generalize hr : f_J13_compare_74951 q1 q2 = r
  refine fr_entryI (by decide) rfl ?_
  intro p e s m args below meth c A Q H locs hQ C hret hlk w ls hl
  have hx := C.1
  have hb := C.2.1
  have hl : lv_has ls 4 [(0, .long q1), (2, .long q2)] := hl
  have hr : (if q2 ≤ q1 then (if q1 = q2 then 0 else 1) else (-1)) = r := hr
  refine lv_lload_n hx hb dJ13_compare_74951_0 rfl (lv_at hl 0 rfl) ?_
  refine lv_lload_n hx hb dJ13_compare_74951_1 rfl (lv_at hl 1 rfl) ?_
  refine fr_lge (tgt := 10) hx hb dJ13_compare_74951_2 dJ13_compare_74951_3 (by decide) (fun c3_1 => ?_) (fun c3_1 => ?_)
  · have hr := (if_pos c3_1).symm.trans hr
    refine lv_lload_n hx hb dJ13_compare_74951_10 rfl (lv_at hl 0 rfl) ?_
    refine lv_lload_n hx hb dJ13_compare_74951_11 rfl (lv_at hl 1 rfl) ?_
    refine fr_lne (tgt := 20) hx hb dJ13_compare_74951_12 dJ13_compare_74951_13 (by decide) (fun c13_2 => ?_) (fun c13_2 => ?_)
    · have hr := (if_neg c13_2).symm.trans hr
      refine lv_iconst (v := 1) hx hb dJ13_compare_74951_20 (by decide) ?_
      subst hr hQ
      exact fr_iret (W0 := []) C hret hlk w rfl rfl rfl dJ13_compare_74951_21
    · have hr := (if_pos c13_2).symm.trans hr
      refine lv_iconst (v := 0) hx hb dJ13_compare_74951_16 (by decide) ?_
      refine lv_goto (tgt := 21) hx hb dJ13_compare_74951_17 (by decide) ?_
      subst hr hQ
      exact fr_iret (W0 := []) C hret hlk w rfl rfl rfl dJ13_compare_74951_21
  · have hr := (if_neg c3_1).symm.trans hr
    refine lv_iconst (v := -1) hx hb dJ13_compare_74951_6 (by decide) ?_
    refine lv_goto (tgt := 21) hx hb dJ13_compare_74951_7 (by decide) ?_
    subst hr hQ
    exact fr_iret (W0 := []) C hret hlk w rfl rfl rfl dJ13_compare_74951_21
def f_J6_bitCount_0f7a4 (q1 : Int32) : Int32 := (((((((q1 - ((((q1).toUInt32 >>> ((1 : Int32).toUInt32 &&& Int32.toUInt32 31)).toInt32) &&& 1431655765)) &&& 858993459) + (((((q1 - ((((q1).toUInt32 >>> ((1 : Int32).toUInt32 &&& Int32.toUInt32 31)).toInt32) &&& 1431655765))).toUInt32 >>> ((2 : Int32).toUInt32 &&& Int32.toUInt32 31)).toInt32) &&& 858993459)) + ((((((q1 - ((((q1).toUInt32 >>> ((1 : Int32).toUInt32 &&& Int32.toUInt32 31)).toInt32) &&& 1431655765)) &&& 858993459) + (((((q1 - ((((q1).toUInt32 >>> ((1 : Int32).toUInt32 &&& Int32.toUInt32 31)).toInt32) &&& 1431655765))).toUInt32 >>> ((2 : Int32).toUInt32 &&& Int32.toUInt32 31)).toInt32) &&& 858993459))).toUInt32 >>> ((4 : Int32).toUInt32 &&& Int32.toUInt32 31)).toInt32)) &&& 252645135) + ((((((((q1 - ((((q1).toUInt32 >>> ((1 : Int32).toUInt32 &&& Int32.toUInt32 31)).toInt32) &&& 1431655765)) &&& 858993459) + (((((q1 - ((((q1).toUInt32 >>> ((1 : Int32).toUInt32 &&& Int32.toUInt32 31)).toInt32) &&& 1431655765))).toUInt32 >>> ((2 : Int32).toUInt32 &&& Int32.toUInt32 31)).toInt32) &&& 858993459)) + ((((((q1 - ((((q1).toUInt32 >>> ((1 : Int32).toUInt32 &&& Int32.toUInt32 31)).toInt32) &&& 1431655765)) &&& 858993459) + (((((q1 - ((((q1).toUInt32 >>> ((1 : Int32).toUInt32 &&& Int32.toUInt32 31)).toInt32) &&& 1431655765))).toUInt32 >>> ((2 : Int32).toUInt32 &&& Int32.toUInt32 31)).toInt32) &&& 858993459))).toUInt32 >>> ((4 : Int32).toUInt32 &&& Int32.toUInt32 31)).toInt32)) &&& 252645135)).toUInt32 >>> ((8 : Int32).toUInt32 &&& Int32.toUInt32 31)).toInt32)) + (((((((((q1 - ((((q1).toUInt32 >>> ((1 : Int32).toUInt32 &&& Int32.toUInt32 31)).toInt32) &&& 1431655765)) &&& 858993459) + (((((q1 - ((((q1).toUInt32 >>> ((1 : Int32).toUInt32 &&& Int32.toUInt32 31)).toInt32) &&& 1431655765))).toUInt32 >>> ((2 : Int32).toUInt32 &&& Int32.toUInt32 31)).toInt32) &&& 858993459)) + ((((((q1 - ((((q1).toUInt32 >>> ((1 : Int32).toUInt32 &&& Int32.toUInt32 31)).toInt32) &&& 1431655765)) &&& 858993459) + (((((q1 - ((((q1).toUInt32 >>> ((1 : Int32).toUInt32 &&& Int32.toUInt32 31)).toInt32) &&& 1431655765))).toUInt32 >>> ((2 : Int32).toUInt32 &&& Int32.toUInt32 31)).toInt32) &&& 858993459))).toUInt32 >>> ((4 : Int32).toUInt32 &&& Int32.toUInt32 31)).toInt32)) &&& 252645135) + ((((((((q1 - ((((q1).toUInt32 >>> ((1 : Int32).toUInt32 &&& Int32.toUInt32 31)).toInt32) &&& 1431655765)) &&& 858993459) + (((((q1 - ((((q1).toUInt32 >>> ((1 : Int32).toUInt32 &&& Int32.toUInt32 31)).toInt32) &&& 1431655765))).toUInt32 >>> ((2 : Int32).toUInt32 &&& Int32.toUInt32 31)).toInt32) &&& 858993459)) + ((((((q1 - ((((q1).toUInt32 >>> ((1 : Int32).toUInt32 &&& Int32.toUInt32 31)).toInt32) &&& 1431655765)) &&& 858993459) + (((((q1 - ((((q1).toUInt32 >>> ((1 : Int32).toUInt32 &&& Int32.toUInt32 31)).toInt32) &&& 1431655765))).toUInt32 >>> ((2 : Int32).toUInt32 &&& Int32.toUInt32 31)).toInt32) &&& 858993459))).toUInt32 >>> ((4 : Int32).toUInt32 &&& Int32.toUInt32 31)).toInt32)) &&& 252645135)).toUInt32 >>> ((8 : Int32).toUInt32 &&& Int32.toUInt32 31)).toInt32))).toUInt32 >>> ((16 : Int32).toUInt32 &&& Int32.toUInt32 31)).toInt32)) &&& 63
set_option maxRecDepth 100000 in
set_option maxHeartbeats 4000000 in
theorem c_J6_bitCount_0f7a4 (l : Launch) (D : va_G) (cI cJ : ClassId) (q1 : Int32) : CI l yJ6_bitCount_0f7a4 cJ6_bitCount_0f7a4 1 .int 0 D cI cJ [.int q1] [] [] (f_J6_bitCount_0f7a4 q1) := by
  generalize hr : f_J6_bitCount_0f7a4 q1 = r
  refine fr_entryI (by decide) rfl ?_
  intro p e s m args below meth c A Q H locs hQ C hret hlk w ls hl
  have hx := C.1
  have hb := C.2.1
  have hl : lv_has ls 1 [(0, .int q1)] := hl
  have hr : (((((((q1 - ((((q1).toUInt32 >>> ((1 : Int32).toUInt32 &&& Int32.toUInt32 31)).toInt32) &&& 1431655765)) &&& 858993459) + (((((q1 - ((((q1).toUInt32 >>> ((1 : Int32).toUInt32 &&& Int32.toUInt32 31)).toInt32) &&& 1431655765))).toUInt32 >>> ((2 : Int32).toUInt32 &&& Int32.toUInt32 31)).toInt32) &&& 858993459)) + ((((((q1 - ((((q1).toUInt32 >>> ((1 : Int32).toUInt32 &&& Int32.toUInt32 31)).toInt32) &&& 1431655765)) &&& 858993459) + (((((q1 - ((((q1).toUInt32 >>> ((1 : Int32).toUInt32 &&& Int32.toUInt32 31)).toInt32) &&& 1431655765))).toUInt32 >>> ((2 : Int32).toUInt32 &&& Int32.toUInt32 31)).toInt32) &&& 858993459))).toUInt32 >>> ((4 : Int32).toUInt32 &&& Int32.toUInt32 31)).toInt32)) &&& 252645135) + ((((((((q1 - ((((q1).toUInt32 >>> ((1 : Int32).toUInt32 &&& Int32.toUInt32 31)).toInt32) &&& 1431655765)) &&& 858993459) + (((((q1 - ((((q1).toUInt32 >>> ((1 : Int32).toUInt32 &&& Int32.toUInt32 31)).toInt32) &&& 1431655765))).toUInt32 >>> ((2 : Int32).toUInt32 &&& Int32.toUInt32 31)).toInt32) &&& 858993459)) + ((((((q1 - ((((q1).toUInt32 >>> ((1 : Int32).toUInt32 &&& Int32.toUInt32 31)).toInt32) &&& 1431655765)) &&& 858993459) + (((((q1 - ((((q1).toUInt32 >>> ((1 : Int32).toUInt32 &&& Int32.toUInt32 31)).toInt32) &&& 1431655765))).toUInt32 >>> ((2 : Int32).toUInt32 &&& Int32.toUInt32 31)).toInt32) &&& 858993459))).toUInt32 >>> ((4 : Int32).toUInt32 &&& Int32.toUInt32 31)).toInt32)) &&& 252645135)).toUInt32 >>> ((8 : Int32).toUInt32 &&& Int32.toUInt32 31)).toInt32)) + (((((((((q1 - ((((q1).toUInt32 >>> ((1 : Int32).toUInt32 &&& Int32.toUInt32 31)).toInt32) &&& 1431655765)) &&& 858993459) + (((((q1 - ((((q1).toUInt32 >>> ((1 : Int32).toUInt32 &&& Int32.toUInt32 31)).toInt32) &&& 1431655765))).toUInt32 >>> ((2 : Int32).toUInt32 &&& Int32.toUInt32 31)).toInt32) &&& 858993459)) + ((((((q1 - ((((q1).toUInt32 >>> ((1 : Int32).toUInt32 &&& Int32.toUInt32 31)).toInt32) &&& 1431655765)) &&& 858993459) + (((((q1 - ((((q1).toUInt32 >>> ((1 : Int32).toUInt32 &&& Int32.toUInt32 31)).toInt32) &&& 1431655765))).toUInt32 >>> ((2 : Int32).toUInt32 &&& Int32.toUInt32 31)).toInt32) &&& 858993459))).toUInt32 >>> ((4 : Int32).toUInt32 &&& Int32.toUInt32 31)).toInt32)) &&& 252645135) + ((((((((q1 - ((((q1).toUInt32 >>> ((1 : Int32).toUInt32 &&& Int32.toUInt32 31)).toInt32) &&& 1431655765)) &&& 858993459) + (((((q1 - ((((q1).toUInt32 >>> ((1 : Int32).toUInt32 &&& Int32.toUInt32 31)).toInt32) &&& 1431655765))).toUInt32 >>> ((2 : Int32).toUInt32 &&& Int32.toUInt32 31)).toInt32) &&& 858993459)) + ((((((q1 - ((((q1).toUInt32 >>> ((1 : Int32).toUInt32 &&& Int32.toUInt32 31)).toInt32) &&& 1431655765)) &&& 858993459) + (((((q1 - ((((q1).toUInt32 >>> ((1 : Int32).toUInt32 &&& Int32.toUInt32 31)).toInt32) &&& 1431655765))).toUInt32 >>> ((2 : Int32).toUInt32 &&& Int32.toUInt32 31)).toInt32) &&& 858993459))).toUInt32 >>> ((4 : Int32).toUInt32 &&& Int32.toUInt32 31)).toInt32)) &&& 252645135)).toUInt32 >>> ((8 : Int32).toUInt32 &&& Int32.toUInt32 31)).toInt32))).toUInt32 >>> ((16 : Int32).toUInt32 &&& Int32.toUInt32 31)).toInt32)) &&& 63 = r := hr
  refine lv_iload_n hx hb dJ6_bitCount_0f7a4_0 rfl (lv_at hl 0 rfl) ?_
  refine lv_iload_n hx hb dJ6_bitCount_0f7a4_1 rfl (lv_at hl 0 rfl) ?_
  refine lv_iconst (v := 1) hx hb dJ6_bitCount_0f7a4_2 (by decide) ?_
  refine lv_iushr (v := ((q1).toUInt32 >>> ((1 : Int32).toUInt32 &&& Int32.toUInt32 31)).toInt32) hx hb dJ6_bitCount_0f7a4_3 rfl ?_
  refine lv_ldcw hx hb C.2.2.2.1 (C.2.2.2.2.1 _ mw_21_19) dJ6_bitCount_0f7a4_4 ?_
  refine lv_iand hx hb dJ6_bitCount_0f7a4_7 ?_
  refine lv_isub hx hb dJ6_bitCount_0f7a4_8 ?_
  refine lv_istore_n (lv' := [(0, .int (q1 - ((((q1).toUInt32 >>> ((1 : Int32).toUInt32 &&& Int32.toUInt32 31)).toInt32) &&& 1431655765)))]) hx hb dJ6_bitCount_0f7a4_9 rfl hl (by decide) rfl (fun ls hl => ?_)
  refine lv_iload_n hx hb dJ6_bitCount_0f7a4_10 rfl (lv_at hl 0 rfl) ?_
  refine lv_ldcw hx hb C.2.2.2.1 (C.2.2.2.2.1 _ mw_21_20) dJ6_bitCount_0f7a4_11 ?_
  refine lv_iand hx hb dJ6_bitCount_0f7a4_14 ?_
  refine lv_iload_n hx hb dJ6_bitCount_0f7a4_15 rfl (lv_at hl 0 rfl) ?_
  refine lv_iconst (v := 2) hx hb dJ6_bitCount_0f7a4_16 (by decide) ?_
  refine lv_iushr (v := (((q1 - ((((q1).toUInt32 >>> ((1 : Int32).toUInt32 &&& Int32.toUInt32 31)).toInt32) &&& 1431655765))).toUInt32 >>> ((2 : Int32).toUInt32 &&& Int32.toUInt32 31)).toInt32) hx hb dJ6_bitCount_0f7a4_17 rfl ?_
  refine lv_ldcw hx hb C.2.2.2.1 (C.2.2.2.2.1 _ mw_21_20) dJ6_bitCount_0f7a4_18 ?_
  refine lv_iand hx hb dJ6_bitCount_0f7a4_21 ?_
  refine lv_iadd hx hb dJ6_bitCount_0f7a4_22 ?_
  refine lv_istore_n (lv' := [(0, .int (((q1 - ((((q1).toUInt32 >>> ((1 : Int32).toUInt32 &&& Int32.toUInt32 31)).toInt32) &&& 1431655765)) &&& 858993459) + (((((q1 - ((((q1).toUInt32 >>> ((1 : Int32).toUInt32 &&& Int32.toUInt32 31)).toInt32) &&& 1431655765))).toUInt32 >>> ((2 : Int32).toUInt32 &&& Int32.toUInt32 31)).toInt32) &&& 858993459)))]) hx hb dJ6_bitCount_0f7a4_23 rfl hl (by decide) rfl (fun ls hl => ?_)
  refine lv_iload_n hx hb dJ6_bitCount_0f7a4_24 rfl (lv_at hl 0 rfl) ?_
  refine lv_iload_n hx hb dJ6_bitCount_0f7a4_25 rfl (lv_at hl 0 rfl) ?_
  refine lv_iconst (v := 4) hx hb dJ6_bitCount_0f7a4_26 (by decide) ?_
  refine lv_iushr (v := (((((q1 - ((((q1).toUInt32 >>> ((1 : Int32).toUInt32 &&& Int32.toUInt32 31)).toInt32) &&& 1431655765)) &&& 858993459) + (((((q1 - ((((q1).toUInt32 >>> ((1 : Int32).toUInt32 &&& Int32.toUInt32 31)).toInt32) &&& 1431655765))).toUInt32 >>> ((2 : Int32).toUInt32 &&& Int32.toUInt32 31)).toInt32) &&& 858993459))).toUInt32 >>> ((4 : Int32).toUInt32 &&& Int32.toUInt32 31)).toInt32) hx hb dJ6_bitCount_0f7a4_27 rfl ?_
  refine lv_iadd hx hb dJ6_bitCount_0f7a4_28 ?_
  refine lv_ldcw hx hb C.2.2.2.1 (C.2.2.2.2.1 _ mw_21_21) dJ6_bitCount_0f7a4_29 ?_
  refine lv_iand hx hb dJ6_bitCount_0f7a4_32 ?_
  refine lv_istore_n (lv' := [(0, .int (((((q1 - ((((q1).toUInt32 >>> ((1 : Int32).toUInt32 &&& Int32.toUInt32 31)).toInt32) &&& 1431655765)) &&& 858993459) + (((((q1 - ((((q1).toUInt32 >>> ((1 : Int32).toUInt32 &&& Int32.toUInt32 31)).toInt32) &&& 1431655765))).toUInt32 >>> ((2 : Int32).toUInt32 &&& Int32.toUInt32 31)).toInt32) &&& 858993459)) + ((((((q1 - ((((q1).toUInt32 >>> ((1 : Int32).toUInt32 &&& Int32.toUInt32 31)).toInt32) &&& 1431655765)) &&& 858993459) + (((((q1 - ((((q1).toUInt32 >>> ((1 : Int32).toUInt32 &&& Int32.toUInt32 31)).toInt32) &&& 1431655765))).toUInt32 >>> ((2 : Int32).toUInt32 &&& Int32.toUInt32 31)).toInt32) &&& 858993459))).toUInt32 >>> ((4 : Int32).toUInt32 &&& Int32.toUInt32 31)).toInt32)) &&& 252645135))]) hx hb dJ6_bitCount_0f7a4_33 rfl hl (by decide) rfl (fun ls hl => ?_)
  refine lv_iload_n hx hb dJ6_bitCount_0f7a4_34 rfl (lv_at hl 0 rfl) ?_
  refine lv_iload_n hx hb dJ6_bitCount_0f7a4_35 rfl (lv_at hl 0 rfl) ?_
  refine lv_bipush (v := 8) hx hb dJ6_bitCount_0f7a4_36 (by decide) ?_
  refine lv_iushr (v := (((((((q1 - ((((q1).toUInt32 >>> ((1 : Int32).toUInt32 &&& Int32.toUInt32 31)).toInt32) &&& 1431655765)) &&& 858993459) + (((((q1 - ((((q1).toUInt32 >>> ((1 : Int32).toUInt32 &&& Int32.toUInt32 31)).toInt32) &&& 1431655765))).toUInt32 >>> ((2 : Int32).toUInt32 &&& Int32.toUInt32 31)).toInt32) &&& 858993459)) + ((((((q1 - ((((q1).toUInt32 >>> ((1 : Int32).toUInt32 &&& Int32.toUInt32 31)).toInt32) &&& 1431655765)) &&& 858993459) + (((((q1 - ((((q1).toUInt32 >>> ((1 : Int32).toUInt32 &&& Int32.toUInt32 31)).toInt32) &&& 1431655765))).toUInt32 >>> ((2 : Int32).toUInt32 &&& Int32.toUInt32 31)).toInt32) &&& 858993459))).toUInt32 >>> ((4 : Int32).toUInt32 &&& Int32.toUInt32 31)).toInt32)) &&& 252645135)).toUInt32 >>> ((8 : Int32).toUInt32 &&& Int32.toUInt32 31)).toInt32) hx hb dJ6_bitCount_0f7a4_38 rfl ?_
  refine lv_iadd hx hb dJ6_bitCount_0f7a4_39 ?_
  refine lv_istore_n (lv' := [(0, .int ((((((q1 - ((((q1).toUInt32 >>> ((1 : Int32).toUInt32 &&& Int32.toUInt32 31)).toInt32) &&& 1431655765)) &&& 858993459) + (((((q1 - ((((q1).toUInt32 >>> ((1 : Int32).toUInt32 &&& Int32.toUInt32 31)).toInt32) &&& 1431655765))).toUInt32 >>> ((2 : Int32).toUInt32 &&& Int32.toUInt32 31)).toInt32) &&& 858993459)) + ((((((q1 - ((((q1).toUInt32 >>> ((1 : Int32).toUInt32 &&& Int32.toUInt32 31)).toInt32) &&& 1431655765)) &&& 858993459) + (((((q1 - ((((q1).toUInt32 >>> ((1 : Int32).toUInt32 &&& Int32.toUInt32 31)).toInt32) &&& 1431655765))).toUInt32 >>> ((2 : Int32).toUInt32 &&& Int32.toUInt32 31)).toInt32) &&& 858993459))).toUInt32 >>> ((4 : Int32).toUInt32 &&& Int32.toUInt32 31)).toInt32)) &&& 252645135) + ((((((((q1 - ((((q1).toUInt32 >>> ((1 : Int32).toUInt32 &&& Int32.toUInt32 31)).toInt32) &&& 1431655765)) &&& 858993459) + (((((q1 - ((((q1).toUInt32 >>> ((1 : Int32).toUInt32 &&& Int32.toUInt32 31)).toInt32) &&& 1431655765))).toUInt32 >>> ((2 : Int32).toUInt32 &&& Int32.toUInt32 31)).toInt32) &&& 858993459)) + ((((((q1 - ((((q1).toUInt32 >>> ((1 : Int32).toUInt32 &&& Int32.toUInt32 31)).toInt32) &&& 1431655765)) &&& 858993459) + (((((q1 - ((((q1).toUInt32 >>> ((1 : Int32).toUInt32 &&& Int32.toUInt32 31)).toInt32) &&& 1431655765))).toUInt32 >>> ((2 : Int32).toUInt32 &&& Int32.toUInt32 31)).toInt32) &&& 858993459))).toUInt32 >>> ((4 : Int32).toUInt32 &&& Int32.toUInt32 31)).toInt32)) &&& 252645135)).toUInt32 >>> ((8 : Int32).toUInt32 &&& Int32.toUInt32 31)).toInt32)))]) hx hb dJ6_bitCount_0f7a4_40 rfl hl (by decide) rfl (fun ls hl => ?_)
  refine lv_iload_n hx hb dJ6_bitCount_0f7a4_41 rfl (lv_at hl 0 rfl) ?_
  refine lv_iload_n hx hb dJ6_bitCount_0f7a4_42 rfl (lv_at hl 0 rfl) ?_
  refine lv_bipush (v := 16) hx hb dJ6_bitCount_0f7a4_43 (by decide) ?_
  refine lv_iushr (v := ((((((((q1 - ((((q1).toUInt32 >>> ((1 : Int32).toUInt32 &&& Int32.toUInt32 31)).toInt32) &&& 1431655765)) &&& 858993459) + (((((q1 - ((((q1).toUInt32 >>> ((1 : Int32).toUInt32 &&& Int32.toUInt32 31)).toInt32) &&& 1431655765))).toUInt32 >>> ((2 : Int32).toUInt32 &&& Int32.toUInt32 31)).toInt32) &&& 858993459)) + ((((((q1 - ((((q1).toUInt32 >>> ((1 : Int32).toUInt32 &&& Int32.toUInt32 31)).toInt32) &&& 1431655765)) &&& 858993459) + (((((q1 - ((((q1).toUInt32 >>> ((1 : Int32).toUInt32 &&& Int32.toUInt32 31)).toInt32) &&& 1431655765))).toUInt32 >>> ((2 : Int32).toUInt32 &&& Int32.toUInt32 31)).toInt32) &&& 858993459))).toUInt32 >>> ((4 : Int32).toUInt32 &&& Int32.toUInt32 31)).toInt32)) &&& 252645135) + ((((((((q1 - ((((q1).toUInt32 >>> ((1 : Int32).toUInt32 &&& Int32.toUInt32 31)).toInt32) &&& 1431655765)) &&& 858993459) + (((((q1 - ((((q1).toUInt32 >>> ((1 : Int32).toUInt32 &&& Int32.toUInt32 31)).toInt32) &&& 1431655765))).toUInt32 >>> ((2 : Int32).toUInt32 &&& Int32.toUInt32 31)).toInt32) &&& 858993459)) + ((((((q1 - ((((q1).toUInt32 >>> ((1 : Int32).toUInt32 &&& Int32.toUInt32 31)).toInt32) &&& 1431655765)) &&& 858993459) + (((((q1 - ((((q1).toUInt32 >>> ((1 : Int32).toUInt32 &&& Int32.toUInt32 31)).toInt32) &&& 1431655765))).toUInt32 >>> ((2 : Int32).toUInt32 &&& Int32.toUInt32 31)).toInt32) &&& 858993459))).toUInt32 >>> ((4 : Int32).toUInt32 &&& Int32.toUInt32 31)).toInt32)) &&& 252645135)).toUInt32 >>> ((8 : Int32).toUInt32 &&& Int32.toUInt32 31)).toInt32))).toUInt32 >>> ((16 : Int32).toUInt32 &&& Int32.toUInt32 31)).toInt32) hx hb dJ6_bitCount_0f7a4_45 rfl ?_
  refine lv_iadd hx hb dJ6_bitCount_0f7a4_46 ?_
  refine lv_istore_n (lv' := [(0, .int (((((((q1 - ((((q1).toUInt32 >>> ((1 : Int32).toUInt32 &&& Int32.toUInt32 31)).toInt32) &&& 1431655765)) &&& 858993459) + (((((q1 - ((((q1).toUInt32 >>> ((1 : Int32).toUInt32 &&& Int32.toUInt32 31)).toInt32) &&& 1431655765))).toUInt32 >>> ((2 : Int32).toUInt32 &&& Int32.toUInt32 31)).toInt32) &&& 858993459)) + ((((((q1 - ((((q1).toUInt32 >>> ((1 : Int32).toUInt32 &&& Int32.toUInt32 31)).toInt32) &&& 1431655765)) &&& 858993459) + (((((q1 - ((((q1).toUInt32 >>> ((1 : Int32).toUInt32 &&& Int32.toUInt32 31)).toInt32) &&& 1431655765))).toUInt32 >>> ((2 : Int32).toUInt32 &&& Int32.toUInt32 31)).toInt32) &&& 858993459))).toUInt32 >>> ((4 : Int32).toUInt32 &&& Int32.toUInt32 31)).toInt32)) &&& 252645135) + ((((((((q1 - ((((q1).toUInt32 >>> ((1 : Int32).toUInt32 &&& Int32.toUInt32 31)).toInt32) &&& 1431655765)) &&& 858993459) + (((((q1 - ((((q1).toUInt32 >>> ((1 : Int32).toUInt32 &&& Int32.toUInt32 31)).toInt32) &&& 1431655765))).toUInt32 >>> ((2 : Int32).toUInt32 &&& Int32.toUInt32 31)).toInt32) &&& 858993459)) + ((((((q1 - ((((q1).toUInt32 >>> ((1 : Int32).toUInt32 &&& Int32.toUInt32 31)).toInt32) &&& 1431655765)) &&& 858993459) + (((((q1 - ((((q1).toUInt32 >>> ((1 : Int32).toUInt32 &&& Int32.toUInt32 31)).toInt32) &&& 1431655765))).toUInt32 >>> ((2 : Int32).toUInt32 &&& Int32.toUInt32 31)).toInt32) &&& 858993459))).toUInt32 >>> ((4 : Int32).toUInt32 &&& Int32.toUInt32 31)).toInt32)) &&& 252645135)).toUInt32 >>> ((8 : Int32).toUInt32 &&& Int32.toUInt32 31)).toInt32)) + (((((((((q1 - ((((q1).toUInt32 >>> ((1 : Int32).toUInt32 &&& Int32.toUInt32 31)).toInt32) &&& 1431655765)) &&& 858993459) + (((((q1 - ((((q1).toUInt32 >>> ((1 : Int32).toUInt32 &&& Int32.toUInt32 31)).toInt32) &&& 1431655765))).toUInt32 >>> ((2 : Int32).toUInt32 &&& Int32.toUInt32 31)).toInt32) &&& 858993459)) + ((((((q1 - ((((q1).toUInt32 >>> ((1 : Int32).toUInt32 &&& Int32.toUInt32 31)).toInt32) &&& 1431655765)) &&& 858993459) + (((((q1 - ((((q1).toUInt32 >>> ((1 : Int32).toUInt32 &&& Int32.toUInt32 31)).toInt32) &&& 1431655765))).toUInt32 >>> ((2 : Int32).toUInt32 &&& Int32.toUInt32 31)).toInt32) &&& 858993459))).toUInt32 >>> ((4 : Int32).toUInt32 &&& Int32.toUInt32 31)).toInt32)) &&& 252645135) + ((((((((q1 - ((((q1).toUInt32 >>> ((1 : Int32).toUInt32 &&& Int32.toUInt32 31)).toInt32) &&& 1431655765)) &&& 858993459) + (((((q1 - ((((q1).toUInt32 >>> ((1 : Int32).toUInt32 &&& Int32.toUInt32 31)).toInt32) &&& 1431655765))).toUInt32 >>> ((2 : Int32).toUInt32 &&& Int32.toUInt32 31)).toInt32) &&& 858993459)) + ((((((q1 - ((((q1).toUInt32 >>> ((1 : Int32).toUInt32 &&& Int32.toUInt32 31)).toInt32) &&& 1431655765)) &&& 858993459) + (((((q1 - ((((q1).toUInt32 >>> ((1 : Int32).toUInt32 &&& Int32.toUInt32 31)).toInt32) &&& 1431655765))).toUInt32 >>> ((2 : Int32).toUInt32 &&& Int32.toUInt32 31)).toInt32) &&& 858993459))).toUInt32 >>> ((4 : Int32).toUInt32 &&& Int32.toUInt32 31)).toInt32)) &&& 252645135)).toUInt32 >>> ((8 : Int32).toUInt32 &&& Int32.toUInt32 31)).toInt32))).toUInt32 >>> ((16 : Int32).toUInt32 &&& Int32.toUInt32 31)).toInt32)))]) hx hb dJ6_bitCount_0f7a4_47 rfl hl (by decide) rfl (fun ls hl => ?_)
  refine lv_iload_n hx hb dJ6_bitCount_0f7a4_48 rfl (lv_at hl 0 rfl) ?_
  refine lv_bipush (v := 63) hx hb dJ6_bitCount_0f7a4_49 (by decide) ?_
  refine lv_iand hx hb dJ6_bitCount_0f7a4_51 ?_
  subst hr hQ
  exact fr_iret (W0 := []) C hret hlk w rfl rfl rfl dJ6_bitCount_0f7a4_52
