theorem mw_9_18 : Cond.fieldLink RX2 24 "MudShares$Mud" "sourceCount" "I" ∈ wsL_law := ck_9 _ (List.mem_of_getElem? (i := 18) rfl)
theorem mw_9_19 : Cond.fieldLink RX2 31 "MudShares$Mud" "tracerCount" "I" ∈ wsL_law := ck_9 _ (List.mem_of_getElem? (i := 19) rfl)
theorem mw_28_1 : Cond.methodLink RX2 38 yX2_allSources ∈ wsL_law := ck_28 _ (List.mem_of_getElem? (i := 1) rfl)
theorem mw_18_0 : Cond.code yX2_allSources cX2_allSources 1 (some .int) ∈ wsL_law := ck_18 _ (List.mem_of_getElem? (i := 0) rfl)
theorem mw_1_22 : Cond.initialized RX2 ∈ wsL_law := ck_1 _ (List.mem_of_getElem? (i := 22) rfl)
theorem mw_17_22 : Cond.instanceMethod yX2_allSources ∈ wsL_law := ck_17 _ (List.mem_of_getElem? (i := 22) rfl)
theorem mw_17_23 : Cond.selects RX2 yX2_allSources yX2_allSources ∈ wsL_law := ck_17 _ (List.mem_of_getElem? (i := 23) rfl)
theorem mw_15_17 : Cond.methodLink RX2 41 yX2_allTracers ∈ wsL_law := ck_15 _ (List.mem_of_getElem? (i := 17) rfl)
theorem mw_15_20 : Cond.code yX2_allTracers cX2_allTracers 1 (some .int) ∈ wsL_law := ck_15 _ (List.mem_of_getElem? (i := 20) rfl)
theorem mw_15_18 : Cond.instanceMethod yX2_allTracers ∈ wsL_law := ck_15 _ (List.mem_of_getElem? (i := 18) rfl)
theorem mw_15_19 : Cond.selects RX2 yX2_allTracers yX2_allTracers ∈ wsL_law := ck_15 _ (List.mem_of_getElem? (i := 19) rfl)
theorem mw_11_13 : Cond.methodLink RX2 44 yX2_isPlace ∈ wsL_law := ck_11 _ (List.mem_of_getElem? (i := 13) rfl)
theorem mw_11_15 : Cond.code yX2_isPlace cX2_isPlace 2 (some .boolean) ∈ wsL_law := ck_11 _ (List.mem_of_getElem? (i := 15) rfl)
theorem mw_11_14 : Cond.static yX2_isPlace ∈ wsL_law := ck_11 _ (List.mem_of_getElem? (i := 14) rfl)
theorem mw_2_23 : Cond.fieldLink RX2 9 "MudShares$Mud" "held" "[I" ∈ wsL_law := ck_2 _ (List.mem_of_getElem? (i := 23) rfl)
theorem mw_3_0 : Cond.fieldLink RX2 15 "MudShares$Mud" "weights" "[I" ∈ wsL_law := ck_3 _ (List.mem_of_getElem? (i := 0) rfl)
theorem mw_13_20 : Cond.methodLink RX2 48 yX2_heldOf ∈ wsL_law := ck_13 _ (List.mem_of_getElem? (i := 20) rfl)
theorem mw_11_12 : Cond.code yX2_heldOf cX2_heldOf 3 (some .int) ∈ wsL_law := ck_11 _ (List.mem_of_getElem? (i := 12) rfl)
theorem mw_11_10 : Cond.instanceMethod yX2_heldOf ∈ wsL_law := ck_11 _ (List.mem_of_getElem? (i := 10) rfl)
theorem mw_11_11 : Cond.selects RX2 yX2_heldOf yX2_heldOf ∈ wsL_law := ck_11 _ (List.mem_of_getElem? (i := 11) rfl)
theorem mw_16_6 : Cond.code yX6_isIn cX6_isIn 2 (some .boolean) ∈ wsL_law := ck_16 _ (List.mem_of_getElem? (i := 6) rfl)
theorem mw_1_2 : Cond.initialized RX6 ∈ wsL_law := ck_1 _ (List.mem_of_getElem? (i := 2) rfl)
theorem mw_16_5 : Cond.static yX6_isIn ∈ wsL_law := ck_16 _ (List.mem_of_getElem? (i := 5) rfl)
theorem mw_17_20 : Cond.methodLink RX2 58 yX2_weightOf ∈ wsL_law := ck_17 _ (List.mem_of_getElem? (i := 20) rfl)
theorem mw_11_23 : Cond.code yX2_weightOf cX2_weightOf 2 (some .int) ∈ wsL_law := ck_11 _ (List.mem_of_getElem? (i := 23) rfl)
theorem mw_11_21 : Cond.instanceMethod yX2_weightOf ∈ wsL_law := ck_11 _ (List.mem_of_getElem? (i := 21) rfl)
theorem mw_11_22 : Cond.selects RX2 yX2_weightOf yX2_weightOf ∈ wsL_law := ck_11 _ (List.mem_of_getElem? (i := 22) rfl)
theorem fg_X2_24 : FG RX2 24 2 2 := ⟨RX2, TX2, 4, rfl, by decide, inlX2, mw_9_18⟩
theorem fg_X2_31 : FG RX2 31 2 3 := ⟨RX2, TX2, 4, rfl, by decide, inlX2, mw_9_19⟩
theorem fg_X2_9 : FG RX2 9 2 0 := ⟨RX2, TX2, 4, rfl, by decide, inlX2, mw_2_23⟩
theorem fg_X2_15 : FG RX2 15 2 1 := ⟨RX2, TX2, 4, rfl, by decide, inlX2, mw_3_0⟩
theorem kf_X2_allSources : KV RX2 yX2_allSources cX2_allSources 1 (some .int) 0 := ⟨mw_18_0, mw_17_22, mw_17_23, mw_1_22, by decide, by decide, by decide +kernel⟩
theorem kf_X2_allTracers : KV RX2 yX2_allTracers cX2_allTracers 1 (some .int) 0 := ⟨mw_15_20, mw_15_18, mw_15_19, mw_1_22, by decide, by decide, by decide +kernel⟩
theorem kf_X2_isPlace : KS yX2_isPlace cX2_isPlace 2 (some .boolean) 2 := ⟨mw_11_15, mw_11_14, mw_1_22, by decide, by decide, by decide +kernel⟩
theorem kf_X2_heldOf : KV RX2 yX2_heldOf cX2_heldOf 3 (some .int) 2 := ⟨mw_11_12, mw_11_10, mw_11_11, mw_1_22, by decide, by decide, by decide +kernel⟩
theorem kf_X6_isIn : KS yX6_isIn cX6_isIn 2 (some .boolean) 2 := ⟨mw_16_6, mw_16_5, mw_1_2, by decide, by decide, by decide +kernel⟩
theorem kf_X2_weightOf : KV RX2 yX2_weightOf cX2_weightOf 2 (some .int) 1 := ⟨mw_11_23, mw_11_21, mw_11_22, mw_1_22, by decide, by decide, by decide +kernel⟩
def f_X2_isSource (xsc : Int32) (q1 : Int32) : Int32 := (if q1 < 0 then 0 else (if xsc ≤ q1 then 0 else 1))
set_option maxRecDepth 100000 in
set_option maxHeartbeats 4000000 in
theorem c_X2_isSource (l : Launch) (D : va_G) (cI cJ : ClassId) (au auh auw : Nat) (xsc : Int32) (xtc : Int32) (xhd : Nat → Int32) (xwt : Nat → Int32) (q1 : Int32) : CI l yX2_isSource cX2_isSource 2 .boolean 0 D cI cJ [.ref au, .int q1] [(au, .inr (2, [.ref auh, .ref auw, .int xsc, .int xtc])), (auh, .inl (cI, 20, .inl xhd)), (auw, .inl (cI, 4, .inl xwt))] [(au, .inr (2, [.ref auh, .ref auw, .int xsc, .int xtc])), (auh, .inl (cI, 20, .inl xhd)), (auw, .inl (cI, 4, .inl xwt))] (f_X2_isSource xsc q1) := by
  generalize hr : f_X2_isSource xsc q1 = r
  refine fr_entryI (by decide) rfl ?_
  intro p e s m args below meth c A Q H locs hQ C hret hlk w ls hl
  have hx := C.1
  have hb := C.2.1
  have hl : lv_has ls 2 [(0, .ref au), (1, .int q1)] := hl
  have hr : (if q1 < 0 then 0 else (if xsc ≤ q1 then 0 else 1)) = r := hr
  refine lv_iload_n hx hb dX2_isSource_0 rfl (lv_at hl 1 rfl) ?_
  refine lv_if_lt (tgt := 16) hx hb dX2_isSource_1 (by decide) (fun c1_1 => ?_) (fun c1_1 => ?_)
  · have hr := (if_pos c1_1).symm.trans hr
    refine lv_iconst (v := 0) hx hb dX2_isSource_16 (by decide) ?_
    subst hr hQ
    exact fr_iret (W0 := []) C hret hlk w rfl rfl rfl dX2_isSource_17
  · have hr := (if_neg c1_1).symm.trans hr
    refine lv_iload_n hx hb dX2_isSource_4 rfl (lv_at hl 1 rfl) ?_
    refine lv_aload_n hx hb dX2_isSource_5 rfl (lv_at hl 0 rfl) ?_
    refine fr_get C w fg_X2_24 0 rfl rfl dX2_isSource_6 ?_
    refine lv_icmp_ge (tgt := 16) hx hb dX2_isSource_9 (by decide) (fun c9_2 => ?_) (fun c9_2 => ?_)
    · have hr := (if_pos c9_2).symm.trans hr
      refine lv_iconst (v := 0) hx hb dX2_isSource_16 (by decide) ?_
      subst hr hQ
      exact fr_iret (W0 := []) C hret hlk w rfl rfl rfl dX2_isSource_17
    · have hr := (if_neg c9_2).symm.trans hr
      refine lv_iconst (v := 1) hx hb dX2_isSource_12 (by decide) ?_
      refine lv_goto (tgt := 17) hx hb dX2_isSource_13 (by decide) ?_
      subst hr hQ
      exact fr_iret (W0 := []) C hret hlk w rfl rfl rfl dX2_isSource_17
theorem b_X2_isSource (xsc : Int32) (q1 : Int32) : (f_X2_isSource xsc q1) = 0 ∨ (f_X2_isSource xsc q1) = 1 := by
  unfold f_X2_isSource
  try dsimp only
  repeat (first | exact Or.inl rfl | exact Or.inr rfl | split)
def f_X2_isTracer (xtc : Int32) (q1 : Int32) : Int32 := (if q1 < 0 then 0 else (if xtc ≤ q1 then 0 else 1))
set_option maxRecDepth 100000 in
set_option maxHeartbeats 4000000 in
theorem c_X2_isTracer (l : Launch) (D : va_G) (cI cJ : ClassId) (au auh auw : Nat) (xsc : Int32) (xtc : Int32) (xhd : Nat → Int32) (xwt : Nat → Int32) (q1 : Int32) : CI l yX2_isTracer cX2_isTracer 2 .boolean 0 D cI cJ [.ref au, .int q1] [(au, .inr (2, [.ref auh, .ref auw, .int xsc, .int xtc])), (auh, .inl (cI, 20, .inl xhd)), (auw, .inl (cI, 4, .inl xwt))] [(au, .inr (2, [.ref auh, .ref auw, .int xsc, .int xtc])), (auh, .inl (cI, 20, .inl xhd)), (auw, .inl (cI, 4, .inl xwt))] (f_X2_isTracer xtc q1) := by
  generalize hr : f_X2_isTracer xtc q1 = r
  refine fr_entryI (by decide) rfl ?_
  intro p e s m args below meth c A Q H locs hQ C hret hlk w ls hl
  have hx := C.1
  have hb := C.2.1
  have hl : lv_has ls 2 [(0, .ref au), (1, .int q1)] := hl
  have hr : (if q1 < 0 then 0 else (if xtc ≤ q1 then 0 else 1)) = r := hr
  refine lv_iload_n hx hb dX2_isTracer_0 rfl (lv_at hl 1 rfl) ?_
  refine lv_if_lt (tgt := 16) hx hb dX2_isTracer_1 (by decide) (fun c1_1 => ?_) (fun c1_1 => ?_)
  · have hr := (if_pos c1_1).symm.trans hr
    refine lv_iconst (v := 0) hx hb dX2_isTracer_16 (by decide) ?_
    subst hr hQ
    exact fr_iret (W0 := []) C hret hlk w rfl rfl rfl dX2_isTracer_17
  · have hr := (if_neg c1_1).symm.trans hr
    refine lv_iload_n hx hb dX2_isTracer_4 rfl (lv_at hl 1 rfl) ?_
    refine lv_aload_n hx hb dX2_isTracer_5 rfl (lv_at hl 0 rfl) ?_
    refine fr_get C w fg_X2_31 0 rfl rfl dX2_isTracer_6 ?_
    refine lv_icmp_ge (tgt := 16) hx hb dX2_isTracer_9 (by decide) (fun c9_2 => ?_) (fun c9_2 => ?_)
    · have hr := (if_pos c9_2).symm.trans hr
      refine lv_iconst (v := 0) hx hb dX2_isTracer_16 (by decide) ?_
      subst hr hQ
      exact fr_iret (W0 := []) C hret hlk w rfl rfl rfl dX2_isTracer_17
    · have hr := (if_neg c9_2).symm.trans hr
      refine lv_iconst (v := 1) hx hb dX2_isTracer_12 (by decide) ?_
      refine lv_goto (tgt := 17) hx hb dX2_isTracer_13 (by decide) ?_
      subst hr hQ
      exact fr_iret (W0 := []) C hret hlk w rfl rfl rfl dX2_isTracer_17
theorem b_X2_isTracer (xtc : Int32) (q1 : Int32) : (f_X2_isTracer xtc q1) = 0 ∨ (f_X2_isTracer xtc q1) = 1 := by
  unfold f_X2_isTracer
  try dsimp only
  repeat (first | exact Or.inl rfl | exact Or.inr rfl | split)
def f_X2_allSources (xsc : Int32) : Int32 := (1 <<< (xsc &&& 31)) - 1
set_option maxRecDepth 100000 in
set_option maxHeartbeats 4000000 in
theorem c_X2_allSources (l : Launch) (D : va_G) (cI cJ : ClassId) (au auh auw : Nat) (xsc : Int32) (xtc : Int32) (xhd : Nat → Int32) (xwt : Nat → Int32)  : CI l yX2_allSources cX2_allSources 1 .int 0 D cI cJ [.ref au] [(au, .inr (2, [.ref auh, .ref auw, .int xsc, .int xtc])), (auh, .inl (cI, 20, .inl xhd)), (auw, .inl (cI, 4, .inl xwt))] [(au, .inr (2, [.ref auh, .ref auw, .int xsc, .int xtc])), (auh, .inl (cI, 20, .inl xhd)), (auw, .inl (cI, 4, .inl xwt))] (f_X2_allSources xsc) := by
  generalize hr : f_X2_allSources xsc = r
  refine fr_entryI (by decide) rfl ?_
  intro p e s m args below meth c A Q H locs hQ C hret hlk w ls hl
  have hx := C.1
  have hb := C.2.1
  have hl : lv_has ls 1 [(0, .ref au)] := hl
  have hr : (1 <<< (xsc &&& 31)) - 1 = r := hr
  refine lv_iconst (v := 1) hx hb dX2_allSources_0 (by decide) ?_
  refine lv_aload_n hx hb dX2_allSources_1 rfl (lv_at hl 0 rfl) ?_
  refine fr_get C w fg_X2_24 0 rfl rfl dX2_allSources_2 ?_
  refine lv_ishl hx hb dX2_allSources_5 ?_
  refine lv_iconst (v := 1) hx hb dX2_allSources_6 (by decide) ?_
  refine lv_isub hx hb dX2_allSources_7 ?_
  subst hr hQ
  exact fr_iret (W0 := []) C hret hlk w rfl rfl rfl dX2_allSources_8
def f_X2_allTracers (xtc : Int32) : Int32 := (1 <<< (xtc &&& 31)) - 1
set_option maxRecDepth 100000 in
set_option maxHeartbeats 4000000 in
theorem c_X2_allTracers (l : Launch) (D : va_G) (cI cJ : ClassId) (au auh auw : Nat) (xsc : Int32) (xtc : Int32) (xhd : Nat → Int32) (xwt : Nat → Int32)  : CI l yX2_allTracers cX2_allTracers 1 .int 0 D cI cJ [.ref au] [(au, .inr (2, [.ref auh, .ref auw, .int xsc, .int xtc])), (auh, .inl (cI, 20, .inl xhd)), (auw, .inl (cI, 4, .inl xwt))] [(au, .inr (2, [.ref auh, .ref auw, .int xsc, .int xtc])), (auh, .inl (cI, 20, .inl xhd)), (auw, .inl (cI, 4, .inl xwt))] (f_X2_allTracers xtc) := by
  generalize hr : f_X2_allTracers xtc = r
  refine fr_entryI (by decide) rfl ?_
  intro p e s m args below meth c A Q H locs hQ C hret hlk w ls hl
  have hx := C.1
  have hb := C.2.1
  have hl : lv_has ls 1 [(0, .ref au)] := hl
  have hr : (1 <<< (xtc &&& 31)) - 1 = r := hr
  refine lv_iconst (v := 1) hx hb dX2_allTracers_0 (by decide) ?_
  refine lv_aload_n hx hb dX2_allTracers_1 rfl (lv_at hl 0 rfl) ?_
  refine fr_get C w fg_X2_31 0 rfl rfl dX2_allTracers_2 ?_
  refine lv_ishl hx hb dX2_allTracers_5 ?_
  refine lv_iconst (v := 1) hx hb dX2_allTracers_6 (by decide) ?_
  refine lv_isub hx hb dX2_allTracers_7 ?_
  subst hr hQ
  exact fr_iret (W0 := []) C hret hlk w rfl rfl rfl dX2_allTracers_8
def f_X2_isSet (xsc : Int32) (q1 : Int32) : Int32 := (if q1 < 1 then 0 else (if (f_X2_allSources xsc) < q1 then 0 else 1))
set_option maxRecDepth 100000 in
set_option maxHeartbeats 4000000 in
theorem c_X2_isSet (l : Launch) (D : va_G) (cI cJ : ClassId) (au auh auw : Nat) (xsc : Int32) (xtc : Int32) (xhd : Nat → Int32) (xwt : Nat → Int32) (q1 : Int32) : CI l yX2_isSet cX2_isSet 2 .boolean 1 D cI cJ [.ref au, .int q1] [(au, .inr (2, [.ref auh, .ref auw, .int xsc, .int xtc])), (auh, .inl (cI, 20, .inl xhd)), (auw, .inl (cI, 4, .inl xwt))] [(au, .inr (2, [.ref auh, .ref auw, .int xsc, .int xtc])), (auh, .inl (cI, 20, .inl xhd)), (auw, .inl (cI, 4, .inl xwt))] (f_X2_isSet xsc q1) := by
  generalize hr : f_X2_isSet xsc q1 = r
  refine fr_entryI (by decide) rfl ?_
  intro p e s m args below meth c A Q H locs hQ C hret hlk w ls hl
  have hx := C.1
  have hb := C.2.1
  have hl : lv_has ls 2 [(0, .ref au), (1, .int q1)] := hl
  have hr : (if q1 < 1 then 0 else (if (f_X2_allSources xsc) < q1 then 0 else 1)) = r := hr
  refine lv_iload_n hx hb dX2_isSet_0 rfl (lv_at hl 1 rfl) ?_
  refine lv_iconst (v := 1) hx hb dX2_isSet_1 (by decide) ?_
  refine lv_icmp_lt (tgt := 17) hx hb dX2_isSet_2 (by decide) (fun c2_1 => ?_) (fun c2_1 => ?_)
  · have hr := (if_pos c2_1).symm.trans hr
    refine lv_iconst (v := 0) hx hb dX2_isSet_17 (by decide) ?_
    subst hr hQ
    exact fr_iret (W0 := []) C hret hlk w rfl rfl rfl dX2_isSet_18
  · have hr := (if_neg c2_1).symm.trans hr
    refine lv_iload_n hx hb dX2_isSet_5 rfl (lv_at hl 1 rfl) ?_
    refine lv_aload_n hx hb dX2_isSet_6 rfl (lv_at hl 0 rfl) ?_
    refine fr_callIV (As := []) (rest := [.int q1]) C w kf_X2_allSources mw_28_1 (c_X2_allSources l D cI cJ au auh auw xsc xtc xhd xwt) ⟨Nat.le_of_ble_eq_true rfl, Nat.le_of_ble_eq_true rfl⟩ ⟨Nat.le_refl 0, Nat.le_refl 0⟩ [0, 1, 2] rfl rfl rfl (ws' := [(au, .inr (2, [.ref auh, .ref auw, .int xsc, .int xtc])), (auh, .inl (cI, 20, .inl xhd)), (auw, .inl (cI, 4, .inl xwt))]) rfl rfl rfl rfl hl.1 rfl (Nat.le_of_ble_eq_true rfl) dX2_isSet_7 (fun H locs w => ?_)
    refine lv_icmp_gt (tgt := 17) hx hb dX2_isSet_10 (by decide) (fun c10_2 => ?_) (fun c10_2 => ?_)
    · have hr := (if_pos c10_2).symm.trans hr
      refine lv_iconst (v := 0) hx hb dX2_isSet_17 (by decide) ?_
      subst hr hQ
      exact fr_iret (W0 := []) C hret hlk w rfl rfl rfl dX2_isSet_18
    · have hr := (if_neg c10_2).symm.trans hr
      refine lv_iconst (v := 1) hx hb dX2_isSet_13 (by decide) ?_
      refine lv_goto (tgt := 18) hx hb dX2_isSet_14 (by decide) ?_
      subst hr hQ
      exact fr_iret (W0 := []) C hret hlk w rfl rfl rfl dX2_isSet_18
theorem b_X2_isSet (xsc : Int32) (q1 : Int32) : (f_X2_isSet xsc q1) = 0 ∨ (f_X2_isSet xsc q1) = 1 := by
  unfold f_X2_isSet
  try dsimp only
  repeat (first | exact Or.inl rfl | exact Or.inr rfl | split)
def f_X2_isUsed (xtc : Int32) (q1 : Int32) : Int32 := (if q1 < 1 then 0 else (if (f_X2_allTracers xtc) < q1 then 0 else 1))
set_option maxRecDepth 100000 in
set_option maxHeartbeats 4000000 in
theorem c_X2_isUsed (l : Launch) (D : va_G) (cI cJ : ClassId) (au auh auw : Nat) (xsc : Int32) (xtc : Int32) (xhd : Nat → Int32) (xwt : Nat → Int32) (q1 : Int32) : CI l yX2_isUsed cX2_isUsed 2 .boolean 1 D cI cJ [.ref au, .int q1] [(au, .inr (2, [.ref auh, .ref auw, .int xsc, .int xtc])), (auh, .inl (cI, 20, .inl xhd)), (auw, .inl (cI, 4, .inl xwt))] [(au, .inr (2, [.ref auh, .ref auw, .int xsc, .int xtc])), (auh, .inl (cI, 20, .inl xhd)), (auw, .inl (cI, 4, .inl xwt))] (f_X2_isUsed xtc q1) := by
  generalize hr : f_X2_isUsed xtc q1 = r
  refine fr_entryI (by decide) rfl ?_
  intro p e s m args below meth c A Q H locs hQ C hret hlk w ls hl
  have hx := C.1
  have hb := C.2.1
  have hl : lv_has ls 2 [(0, .ref au), (1, .int q1)] := hl
  have hr : (if q1 < 1 then 0 else (if (f_X2_allTracers xtc) < q1 then 0 else 1)) = r := hr
  refine lv_iload_n hx hb dX2_isUsed_0 rfl (lv_at hl 1 rfl) ?_
  refine lv_iconst (v := 1) hx hb dX2_isUsed_1 (by decide) ?_
  refine lv_icmp_lt (tgt := 17) hx hb dX2_isUsed_2 (by decide) (fun c2_1 => ?_) (fun c2_1 => ?_)
  · have hr := (if_pos c2_1).symm.trans hr
    refine lv_iconst (v := 0) hx hb dX2_isUsed_17 (by decide) ?_
    subst hr hQ
    exact fr_iret (W0 := []) C hret hlk w rfl rfl rfl dX2_isUsed_18
  · have hr := (if_neg c2_1).symm.trans hr
    refine lv_iload_n hx hb dX2_isUsed_5 rfl (lv_at hl 1 rfl) ?_
    refine lv_aload_n hx hb dX2_isUsed_6 rfl (lv_at hl 0 rfl) ?_
    refine fr_callIV (As := []) (rest := [.int q1]) C w kf_X2_allTracers mw_15_17 (c_X2_allTracers l D cI cJ au auh auw xsc xtc xhd xwt) ⟨Nat.le_of_ble_eq_true rfl, Nat.le_of_ble_eq_true rfl⟩ ⟨Nat.le_refl 0, Nat.le_refl 0⟩ [0, 1, 2] rfl rfl rfl (ws' := [(au, .inr (2, [.ref auh, .ref auw, .int xsc, .int xtc])), (auh, .inl (cI, 20, .inl xhd)), (auw, .inl (cI, 4, .inl xwt))]) rfl rfl rfl rfl hl.1 rfl (Nat.le_of_ble_eq_true rfl) dX2_isUsed_7 (fun H locs w => ?_)
    refine lv_icmp_gt (tgt := 17) hx hb dX2_isUsed_10 (by decide) (fun c10_2 => ?_) (fun c10_2 => ?_)
    · have hr := (if_pos c10_2).symm.trans hr
      refine lv_iconst (v := 0) hx hb dX2_isUsed_17 (by decide) ?_
      subst hr hQ
      exact fr_iret (W0 := []) C hret hlk w rfl rfl rfl dX2_isUsed_18
    · have hr := (if_neg c10_2).symm.trans hr
      refine lv_iconst (v := 1) hx hb dX2_isUsed_13 (by decide) ?_
      refine lv_goto (tgt := 18) hx hb dX2_isUsed_14 (by decide) ?_
      subst hr hQ
      exact fr_iret (W0 := []) C hret hlk w rfl rfl rfl dX2_isUsed_18
theorem b_X2_isUsed (xtc : Int32) (q1 : Int32) : (f_X2_isUsed xtc q1) = 0 ∨ (f_X2_isUsed xtc q1) = 1 := by
  unfold f_X2_isUsed
  try dsimp only
  repeat (first | exact Or.inl rfl | exact Or.inr rfl | split)
def f_X2_heldOf (xhd : Nat → Int32) (ro : Int32) (tr : Int32) : Int32 := (if (f_X2_isPlace ro tr) = 0 then 0 else xhd (Int32.toNatClampNeg ((ro * 4) + tr)))
set_option maxRecDepth 100000 in
set_option maxHeartbeats 4000000 in
theorem c_X2_heldOf (l : Launch) (D : va_G) (cI cJ : ClassId) (au auh auw : Nat) (xsc : Int32) (xtc : Int32) (xhd : Nat → Int32) (xwt : Nat → Int32) (ro : Int32) (tr : Int32) : CI l yX2_heldOf cX2_heldOf 3 .int 1 D cI cJ [.ref au, .int ro, .int tr] [(au, .inr (2, [.ref auh, .ref auw, .int xsc, .int xtc])), (auh, .inl (cI, 20, .inl xhd)), (auw, .inl (cI, 4, .inl xwt))] [(au, .inr (2, [.ref auh, .ref auw, .int xsc, .int xtc])), (auh, .inl (cI, 20, .inl xhd)), (auw, .inl (cI, 4, .inl xwt))] (f_X2_heldOf xhd ro tr) := by
  generalize hr : f_X2_heldOf xhd ro tr = r
  refine fr_entryI (by decide) rfl ?_
  intro p e s m args below meth c A Q H locs hQ C hret hlk w ls hl
  have hx := C.1
  have hb := C.2.1
  have hl : lv_has ls 3 [(0, .ref au), (1, .int ro), (2, .int tr)] := hl
  have hr : (if (f_X2_isPlace ro tr) = 0 then 0 else xhd (Int32.toNatClampNeg ((ro * 4) + tr))) = r := hr
  refine lv_iload_n hx hb dX2_heldOf_0 rfl (lv_at hl 1 rfl) ?_
  refine lv_iload_n hx hb dX2_heldOf_1 rfl (lv_at hl 2 rfl) ?_
  refine fr_callIS (As := [.int ro, .int tr]) (rest := []) C w kf_X2_isPlace mw_11_13 (c_X2_isPlace l D cI cJ ro tr) ⟨Nat.le_of_ble_eq_true rfl, Nat.le_of_ble_eq_true rfl⟩ ⟨Nat.le_refl 0, Nat.le_refl 0⟩ [] rfl rfl rfl (ws' := [(au, .inr (2, [.ref auh, .ref auw, .int xsc, .int xtc])), (auh, .inl (cI, 20, .inl xhd)), (auw, .inl (cI, 4, .inl xwt))]) rfl rfl hl.1 rfl (Nat.le_of_ble_eq_true rfl) dX2_heldOf_2 (fun H locs w => ?_)
  refine lv_if_eq (tgt := 21) hx hb dX2_heldOf_5 (by decide) (fun c5_1 => ?_) (fun c5_1 => ?_)
  · have hr := (if_pos c5_1).symm.trans hr
    refine lv_iconst (v := 0) hx hb dX2_heldOf_21 (by decide) ?_
    subst hr hQ
    exact fr_iret (W0 := []) C hret hlk w rfl rfl rfl dX2_heldOf_22
  · have hr := (if_neg c5_1).symm.trans hr
    refine lv_aload_n hx hb dX2_heldOf_8 rfl (lv_at hl 0 rfl) ?_
    refine fr_get C w fg_X2_9 0 rfl rfl dX2_heldOf_9 ?_
    refine lv_iload_n hx hb dX2_heldOf_12 rfl (lv_at hl 1 rfl) ?_
    refine lv_iconst (v := 4) hx hb dX2_heldOf_13 (by decide) ?_
    refine lv_imul hx hb dX2_heldOf_14 ?_
    refine lv_iload_n hx hb dX2_heldOf_15 rfl (lv_at hl 2 rfl) ?_
    refine lv_iadd hx hb dX2_heldOf_16 ?_
    refine fr_iald C w 1 rfl (vi_place (by assumption)) dX2_heldOf_17 ?_
    refine lv_goto (tgt := 22) hx hb dX2_heldOf_18 (by decide) ?_
    subst hr hQ
    exact fr_iret (W0 := []) C hret hlk w rfl rfl rfl dX2_heldOf_22
def f_X2_putHeld (xhd : Nat → Int32) (ro : Int32) (tr : Int32) (v0 : Int32) : (Nat → Int32) := (if (f_X2_isPlace ro tr) = 0 then xhd else upd xhd (Int32.toNatClampNeg ((ro * 4) + tr)) v0)
set_option maxRecDepth 100000 in
set_option maxHeartbeats 4000000 in
theorem c_X2_putHeld (l : Launch) (D : va_G) (cI cJ : ClassId) (au auh auw : Nat) (xsc : Int32) (xtc : Int32) (xhd : Nat → Int32) (xwt : Nat → Int32) (ro : Int32) (tr : Int32) (v0 : Int32) : CV l yX2_putHeld cX2_putHeld 4 1 D cI cJ [.ref au, .int ro, .int tr, .int v0] [(au, .inr (2, [.ref auh, .ref auw, .int xsc, .int xtc])), (auh, .inl (cI, 20, .inl xhd)), (auw, .inl (cI, 4, .inl xwt))] [(au, .inr (2, [.ref auh, .ref auw, .int xsc, .int xtc])), (auh, .inl (cI, 20, .inl (f_X2_putHeld xhd ro tr v0))), (auw, .inl (cI, 4, .inl xwt))] := by
  generalize hr : f_X2_putHeld xhd ro tr v0 = r
  refine fr_entryV (by decide) rfl ?_
  intro p e s m args below meth c A Q H locs hQ C hret hlk w ls hl
  have hx := C.1
  have hb := C.2.1
  have hl : lv_has ls 4 [(0, .ref au), (1, .int ro), (2, .int tr), (3, .int v0)] := hl
  have hr : (if (f_X2_isPlace ro tr) = 0 then xhd else upd xhd (Int32.toNatClampNeg ((ro * 4) + tr)) v0) = r := hr
  refine lv_iload_n hx hb dX2_putHeld_0 rfl (lv_at hl 1 rfl) ?_
  refine lv_iload_n hx hb dX2_putHeld_1 rfl (lv_at hl 2 rfl) ?_
  refine fr_callIS (As := [.int ro, .int tr]) (rest := []) C w kf_X2_isPlace mw_11_13 (c_X2_isPlace l D cI cJ ro tr) ⟨Nat.le_of_ble_eq_true rfl, Nat.le_of_ble_eq_true rfl⟩ ⟨Nat.le_refl 0, Nat.le_refl 0⟩ [] rfl rfl rfl (ws' := [(au, .inr (2, [.ref auh, .ref auw, .int xsc, .int xtc])), (auh, .inl (cI, 20, .inl xhd)), (auw, .inl (cI, 4, .inl xwt))]) rfl rfl hl.1 rfl (Nat.le_of_ble_eq_true rfl) dX2_putHeld_2 (fun H locs w => ?_)
  refine lv_if_eq (tgt := 19) hx hb dX2_putHeld_5 (by decide) (fun c5_1 => ?_) (fun c5_1 => ?_)
  · have hr := (if_pos c5_1).symm.trans hr
    subst hr hQ
    exact fr_vret C hret hlk w rfl dX2_putHeld_19
  · have hr := (if_neg c5_1).symm.trans hr
    refine lv_aload_n hx hb dX2_putHeld_8 rfl (lv_at hl 0 rfl) ?_
    refine fr_get C w fg_X2_9 0 rfl rfl dX2_putHeld_9 ?_
    refine lv_iload_n hx hb dX2_putHeld_12 rfl (lv_at hl 1 rfl) ?_
    refine lv_iconst (v := 4) hx hb dX2_putHeld_13 (by decide) ?_
    refine lv_imul hx hb dX2_putHeld_14 ?_
    refine lv_iload_n hx hb dX2_putHeld_15 rfl (lv_at hl 2 rfl) ?_
    refine lv_iadd hx hb dX2_putHeld_16 ?_
    refine lv_iload_n hx hb dX2_putHeld_17 rfl (lv_at hl 3 rfl) ?_
    refine fr_iast C w 1 rfl (vi_place (by assumption)) (ws' := [(au, .inr (2, [.ref auh, .ref auw, .int xsc, .int xtc])), (auh, .inl (cI, 20, .inl (upd xhd (Int32.toNatClampNeg ((ro * 4) + tr)) v0))), (auw, .inl (cI, 4, .inl xwt))]) rfl dX2_putHeld_18 (fun H locs w => ?_)
    subst hr hQ
    exact fr_vret C hret hlk w rfl dX2_putHeld_19
def f_X2_weightOf (xwt : Nat → Int32) (tr : Int32) : Int32 := (if tr < 0 then 0 else (if 4 ≤ tr then 0 else xwt (Int32.toNatClampNeg tr)))
set_option maxRecDepth 100000 in
set_option maxHeartbeats 4000000 in
theorem c_X2_weightOf (l : Launch) (D : va_G) (cI cJ : ClassId) (au auh auw : Nat) (xsc : Int32) (xtc : Int32) (xhd : Nat → Int32) (xwt : Nat → Int32) (tr : Int32) : CI l yX2_weightOf cX2_weightOf 2 .int 0 D cI cJ [.ref au, .int tr] [(au, .inr (2, [.ref auh, .ref auw, .int xsc, .int xtc])), (auh, .inl (cI, 20, .inl xhd)), (auw, .inl (cI, 4, .inl xwt))] [(au, .inr (2, [.ref auh, .ref auw, .int xsc, .int xtc])), (auh, .inl (cI, 20, .inl xhd)), (auw, .inl (cI, 4, .inl xwt))] (f_X2_weightOf xwt tr) := by
  generalize hr : f_X2_weightOf xwt tr = r
  refine fr_entryI (by decide) rfl ?_
  intro p e s m args below meth c A Q H locs hQ C hret hlk w ls hl
  have hx := C.1
  have hb := C.2.1
  have hl : lv_has ls 2 [(0, .ref au), (1, .int tr)] := hl
  have hr : (if tr < 0 then 0 else (if 4 ≤ tr then 0 else xwt (Int32.toNatClampNeg tr))) = r := hr
  refine lv_iload_n hx hb dX2_weightOf_0 rfl (lv_at hl 1 rfl) ?_
  refine lv_if_lt (tgt := 18) hx hb dX2_weightOf_1 (by decide) (fun c1_1 => ?_) (fun c1_1 => ?_)
  · have hr := (if_pos c1_1).symm.trans hr
    refine lv_iconst (v := 0) hx hb dX2_weightOf_18 (by decide) ?_
    subst hr hQ
    exact fr_iret (W0 := []) C hret hlk w rfl rfl rfl dX2_weightOf_19
  · have hr := (if_neg c1_1).symm.trans hr
    refine lv_iload_n hx hb dX2_weightOf_4 rfl (lv_at hl 1 rfl) ?_
    refine lv_iconst (v := 4) hx hb dX2_weightOf_5 (by decide) ?_
    refine lv_icmp_ge (tgt := 18) hx hb dX2_weightOf_6 (by decide) (fun c6_2 => ?_) (fun c6_2 => ?_)
    · have hr := (if_pos c6_2).symm.trans hr
      refine lv_iconst (v := 0) hx hb dX2_weightOf_18 (by decide) ?_
      subst hr hQ
      exact fr_iret (W0 := []) C hret hlk w rfl rfl rfl dX2_weightOf_19
    · have hr := (if_neg c6_2).symm.trans hr
      refine lv_aload_n hx hb dX2_weightOf_9 rfl (lv_at hl 0 rfl) ?_
      refine fr_get C w fg_X2_15 0 rfl rfl dX2_weightOf_10 ?_
      refine lv_iload_n hx hb dX2_weightOf_13 rfl (lv_at hl 1 rfl) ?_
      refine fr_iald C w 2 rfl (vi_guard (by assumption) (by assumption) (by decide)) dX2_weightOf_14 ?_
      refine lv_goto (tgt := 19) hx hb dX2_weightOf_15 (by decide) ?_
      subst hr hQ
      exact fr_iret (W0 := []) C hret hlk w rfl rfl rfl dX2_weightOf_19
def f_X2_putWeight (xwt : Nat → Int32) (tr : Int32) (v0 : Int32) : (Nat → Int32) := (if tr < 0 then xwt else (if 4 ≤ tr then xwt else upd xwt (Int32.toNatClampNeg tr) v0))
set_option maxRecDepth 100000 in
set_option maxHeartbeats 4000000 in
theorem c_X2_putWeight (l : Launch) (D : va_G) (cI cJ : ClassId) (au auh auw : Nat) (xsc : Int32) (xtc : Int32) (xhd : Nat → Int32) (xwt : Nat → Int32) (tr : Int32) (v0 : Int32) : CV l yX2_putWeight cX2_putWeight 3 0 D cI cJ [.ref au, .int tr, .int v0] [(au, .inr (2, [.ref auh, .ref auw, .int xsc, .int xtc])), (auh, .inl (cI, 20, .inl xhd)), (auw, .inl (cI, 4, .inl xwt))] [(au, .inr (2, [.ref auh, .ref auw, .int xsc, .int xtc])), (auh, .inl (cI, 20, .inl xhd)), (auw, .inl (cI, 4, .inl (f_X2_putWeight xwt tr v0)))] := by
  generalize hr : f_X2_putWeight xwt tr v0 = r
  refine fr_entryV (by decide) rfl ?_
  intro p e s m args below meth c A Q H locs hQ C hret hlk w ls hl
  have hx := C.1
  have hb := C.2.1
  have hl : lv_has ls 3 [(0, .ref au), (1, .int tr), (2, .int v0)] := hl
  have hr : (if tr < 0 then xwt else (if 4 ≤ tr then xwt else upd xwt (Int32.toNatClampNeg tr) v0)) = r := hr
  refine lv_iload_n hx hb dX2_putWeight_0 rfl (lv_at hl 1 rfl) ?_
  refine lv_if_lt (tgt := 16) hx hb dX2_putWeight_1 (by decide) (fun c1_1 => ?_) (fun c1_1 => ?_)
  · have hr := (if_pos c1_1).symm.trans hr
    subst hr hQ
    exact fr_vret C hret hlk w rfl dX2_putWeight_16
  · have hr := (if_neg c1_1).symm.trans hr
    refine lv_iload_n hx hb dX2_putWeight_4 rfl (lv_at hl 1 rfl) ?_
    refine lv_iconst (v := 4) hx hb dX2_putWeight_5 (by decide) ?_
    refine lv_icmp_ge (tgt := 16) hx hb dX2_putWeight_6 (by decide) (fun c6_2 => ?_) (fun c6_2 => ?_)
    · have hr := (if_pos c6_2).symm.trans hr
      subst hr hQ
      exact fr_vret C hret hlk w rfl dX2_putWeight_16
    · have hr := (if_neg c6_2).symm.trans hr
      refine lv_aload_n hx hb dX2_putWeight_9 rfl (lv_at hl 0 rfl) ?_
      refine fr_get C w fg_X2_15 0 rfl rfl dX2_putWeight_10 ?_
      refine lv_iload_n hx hb dX2_putWeight_13 rfl (lv_at hl 1 rfl) ?_
      refine lv_iload_n hx hb dX2_putWeight_14 rfl (lv_at hl 2 rfl) ?_
      refine fr_iast C w 2 rfl (vi_guard (by assumption) (by assumption) (by decide)) (ws' := [(au, .inr (2, [.ref auh, .ref auw, .int xsc, .int xtc])), (auh, .inl (cI, 20, .inl xhd)), (auw, .inl (cI, 4, .inl (upd xwt (Int32.toNatClampNeg tr) v0)))]) rfl dX2_putWeight_15 (fun H locs w => ?_)
      subst hr hQ
      exact fr_vret C hret hlk w rfl dX2_putWeight_16
def L_X2_heldByParts_8 (xhd : Nat → Int32) (tr : Int32) : Nat → Int32 → Int32 → Int32 → Int32 × Int32 × Int32
  | 0, _, _, _ => (0, 0, 0)
  | n8 + 1, i1, i2, i3 => (if 4 ≤ i3 then (i1, i2, i3) else L_X2_heldByParts_8 xhd tr n8 (i1 + ((i2 - i2 / 10 * 10) * (f_X2_heldOf xhd i3 tr))) (i2 / 10) (i3 + 1))
def f_X2_heldByParts (xhd : Nat → Int32) (tr : Int32) (pa : Int32) : Int32 := ((fun (y8 : Int32 × Int32 × Int32) => y8.1) (L_X2_heldByParts_8 xhd tr 5 0 pa 0))
set_option maxRecDepth 100000 in
set_option maxHeartbeats 4000000 in
theorem c_X2_heldByParts (l : Launch) (D : va_G) (cI cJ : ClassId) (au auh auw : Nat) (xsc : Int32) (xtc : Int32) (xhd : Nat → Int32) (xwt : Nat → Int32) (tr : Int32) (pa : Int32) : CI l yX2_heldByParts cX2_heldByParts 6 .int 2 D cI cJ [.ref au, .int tr, .int pa] [(au, .inr (2, [.ref auh, .ref auw, .int xsc, .int xtc])), (auh, .inl (cI, 20, .inl xhd)), (auw, .inl (cI, 4, .inl xwt))] [(au, .inr (2, [.ref auh, .ref auw, .int xsc, .int xtc])), (auh, .inl (cI, 20, .inl xhd)), (auw, .inl (cI, 4, .inl xwt))] (f_X2_heldByParts xhd tr pa) := by
  generalize hr : f_X2_heldByParts xhd tr pa = r
  refine fr_entryI (by decide) rfl ?_
  intro p e s m args below meth c A Q H locs hQ C hret hlk w ls hl
  have hx := C.1
  have hb := C.2.1
  have hl : lv_has ls 6 [(0, .ref au), (1, .int tr), (2, .int pa)] := hl
  have hr : ((fun (y8 : Int32 × Int32 × Int32) => y8.1) (L_X2_heldByParts_8 xhd tr 5 0 pa 0)) = r := hr
  refine lv_iconst (v := 0) hx hb dX2_heldByParts_0 (by decide) ?_
  refine lv_istore_n (lv' := [(3, .int 0), (0, .ref au), (1, .int tr), (2, .int pa)]) hx hb dX2_heldByParts_1 rfl hl (by decide) rfl (fun ls hl => ?_)
  refine lv_iload_n hx hb dX2_heldByParts_2 rfl (lv_at hl 3 rfl) ?_
  refine lv_istore (lv' := [(4, .int pa), (3, .int 0), (0, .ref au), (1, .int tr), (2, .int pa)]) hx hb dX2_heldByParts_3 hl (by decide) rfl (fun ls hl => ?_)
  refine lv_iconst (v := 0) hx hb dX2_heldByParts_5 (by decide) ?_
  refine lv_istore (lv' := [(5, .int 0), (4, .int pa), (3, .int 0), (0, .ref au), (1, .int tr), (2, .int pa)]) hx hb dX2_heldByParts_6 hl (by decide) rfl (fun ls hl => ?_)
  obtain ⟨y8, hy8⟩ : ∃ y, y = L_X2_heldByParts_8 xhd tr 5 0 pa 0 := ⟨_, rfl⟩
  have hr : y8.1 = r := by rw [hy8]; exact hr
  have X8 : ∀ (H : Heap) (locs : List Loc), Wd D A s.heap H locs [(au, .inr (2, [.ref auh, .ref auw, .int xsc, .int xtc])), (auh, .inl (cI, 20, .inl xhd)), (auw, .inl (cI, 4, .inl xwt))] → ∀ (ls : Array Slot), lv_has ls 6 [(0, .ref au), (1, .int tr), (2, .int pa), (3, .int y8.1), (4, .int y8.2.1), (5, .int y8.2.2)] → W p l e (rl 2) s m args below meth c H locs 0 0 Q (F0 m 43 ls []) := by
    intro H locs w ls hl
    refine lv_iload_n hx hb dX2_heldByParts_43 rfl (lv_at hl 3 rfl) ?_
    subst hr hQ
    exact fr_iret (W0 := []) C hret hlk w rfl rfl rfl dX2_heldByParts_44
  have LP8 : ∀ (n8 : Nat) (k8 : Nat) (i1 : Int32) (i2 : Int32) (i3 : Int32), i3 = nI k8 → k8 ≤ 4 → 4 < k8 + n8 → L_X2_heldByParts_8 xhd tr n8 i1 i2 i3 = y8 → ∀ (H : Heap) (locs : List Loc), Wd D A s.heap H locs [(au, .inr (2, [.ref auh, .ref auw, .int xsc, .int xtc])), (auh, .inl (cI, 20, .inl xhd)), (auw, .inl (cI, 4, .inl xwt))] → ∀ (ls : Array Slot), lv_has ls 6 [(0, .ref au), (1, .int tr), (2, .int pa), (3, .int i1), (4, .int i2), (5, .int i3)] → W p l e (rl 2) s m args below meth c H locs 0 0 Q (F0 m 8 ls []) := by
    clear hr
    intro n8
    induction n8 with
    | zero => intro k8 i1 i2 i3 hk8 hkN8 hn8; exact absurd hn8 (by omega)
    | succ n8 ih8 =>
      intro k8 i1 i2 i3 hk8 hkN8 hn8 hr H locs w ls hl
      have hr : (if 4 ≤ i3 then (i1, i2, i3) else L_X2_heldByParts_8 xhd tr n8 (i1 + ((i2 - i2 / 10 * 10) * (f_X2_heldOf xhd i3 tr))) (i2 / 10) (i3 + 1)) = y8 := hr
      refine lv_iload hx hb dX2_heldByParts_8 (lv_at hl 5 rfl) ?_
      refine lv_iconst (v := 4) hx hb dX2_heldByParts_10 (by decide) ?_
      refine lv_icmp_ge (tgt := 43) hx hb dX2_heldByParts_11 (by decide) (fun c11_4 => ?_) (fun c11_4 => ?_)
      · have hr := (if_pos c11_4).symm.trans hr
        subst hr
        exact X8 H locs w ls (lv_sub hl [0, 1, 2, 3, 4, 5] rfl)
      · have hr := (if_neg c11_4).symm.trans hr
        have hkl8 := kl_of hk8 hkN8 (N := 4) (by decide) (by omega) c11_4
        refine lv_iload_n hx hb dX2_heldByParts_14 rfl (lv_at hl 3 rfl) ?_
        refine lv_iload hx hb dX2_heldByParts_15 (lv_at hl 4 rfl) ?_
        refine lv_bipush (v := 10) hx hb dX2_heldByParts_17 (by decide) ?_
        refine lv_irem hx hb dX2_heldByParts_19 (by decide) ?_
        refine lv_aload_n hx hb dX2_heldByParts_20 rfl (lv_at hl 0 rfl) ?_
        refine lv_iload hx hb dX2_heldByParts_21 (lv_at hl 5 rfl) ?_
        refine lv_iload_n hx hb dX2_heldByParts_23 rfl (lv_at hl 1 rfl) ?_
        refine fr_callIV (As := [.int i3, .int tr]) (rest := [.int (i2 - i2 / 10 * 10), .int i1]) C w kf_X2_heldOf mw_13_20 (c_X2_heldOf l D cI cJ au auh auw xsc xtc xhd xwt i3 tr) ⟨Nat.le_of_ble_eq_true rfl, Nat.le_of_ble_eq_true rfl⟩ ⟨Nat.le_refl 0, Nat.le_refl 0⟩ [0, 1, 2] rfl rfl rfl (ws' := [(au, .inr (2, [.ref auh, .ref auw, .int xsc, .int xtc])), (auh, .inl (cI, 20, .inl xhd)), (auw, .inl (cI, 4, .inl xwt))]) rfl rfl rfl rfl hl.1 rfl (Nat.le_of_ble_eq_true rfl) dX2_heldByParts_24 (fun H locs w => ?_)
        refine lv_imul hx hb dX2_heldByParts_27 ?_
        refine lv_iadd hx hb dX2_heldByParts_28 ?_
        refine lv_istore_n (lv' := [(3, .int (i1 + ((i2 - i2 / 10 * 10) * (f_X2_heldOf xhd i3 tr)))), (0, .ref au), (1, .int tr), (2, .int pa), (4, .int i2), (5, .int i3)]) hx hb dX2_heldByParts_29 rfl hl (by decide) rfl (fun ls hl => ?_)
        refine lv_iload hx hb dX2_heldByParts_30 (lv_at hl 4 rfl) ?_
        refine lv_bipush (v := 10) hx hb dX2_heldByParts_32 (by decide) ?_
        refine lv_idiv hx hb dX2_heldByParts_34 (by decide) ?_
        refine lv_istore (lv' := [(4, .int (i2 / 10)), (3, .int (i1 + ((i2 - i2 / 10 * 10) * (f_X2_heldOf xhd i3 tr)))), (0, .ref au), (1, .int tr), (2, .int pa), (5, .int i3)]) hx hb dX2_heldByParts_35 hl (by decide) rfl (fun ls hl => ?_)
        refine lv_iinc (v := i3 + 1) (lv' := [(5, .int (i3 + 1)), (4, .int (i2 / 10)), (3, .int (i1 + ((i2 - i2 / 10 * 10) * (f_X2_heldOf xhd i3 tr)))), (0, .ref au), (1, .int tr), (2, .int pa)]) hx hb dX2_heldByParts_37 hl (k := 5) rfl rfl (by decide) rfl (fun ls hl => ?_)
        refine lv_goto (tgt := 8) hx hb dX2_heldByParts_40 (by decide) ?_
        exact ih8 (k8 + 1) (i1 + ((i2 - i2 / 10 * 10) * (f_X2_heldOf xhd i3 tr))) (i2 / 10) (i3 + 1) (by rw [hk8]; exact nI_1 k8) (by omega) (by omega) hr H locs w ls (lv_sub hl [3, 4, 5, 2, 1, 0] rfl)
  exact LP8 5 0 0 pa 0 (by decide) (by omega) (by omega) hy8.symm H locs w ls (lv_sub hl [3, 4, 5, 2, 1, 0] rfl)
def L_X2_areAlike_3 (xhd : Nat → Int32) (q1 : Int32) (q2 : Int32) (us : Int32) : Nat → Int32 → Int32
  | 0, _ => 0
  | n3 + 1, i1 => (if 4 ≤ i1 then 1 else (if (f_X6_isIn us i1) = 0 then L_X2_areAlike_3 xhd q1 q2 us n3 (i1 + 1) else (if (f_X2_heldOf xhd q1 i1) = (f_X2_heldOf xhd q2 i1) then L_X2_areAlike_3 xhd q1 q2 us n3 (i1 + 1) else 0)))
def f_X2_areAlike (xhd : Nat → Int32) (q1 : Int32) (q2 : Int32) (us : Int32) : Int32 := L_X2_areAlike_3 xhd q1 q2 us 5 0
set_option maxRecDepth 100000 in
set_option maxHeartbeats 4000000 in
theorem c_X2_areAlike (l : Launch) (D : va_G) (cI cJ : ClassId) (au auh auw : Nat) (xsc : Int32) (xtc : Int32) (xhd : Nat → Int32) (xwt : Nat → Int32) (q1 : Int32) (q2 : Int32) (us : Int32) : CI l yX2_areAlike cX2_areAlike 5 .boolean 2 D cI cJ [.ref au, .int q1, .int q2, .int us] [(au, .inr (2, [.ref auh, .ref auw, .int xsc, .int xtc])), (auh, .inl (cI, 20, .inl xhd)), (auw, .inl (cI, 4, .inl xwt))] [(au, .inr (2, [.ref auh, .ref auw, .int xsc, .int xtc])), (auh, .inl (cI, 20, .inl xhd)), (auw, .inl (cI, 4, .inl xwt))] (f_X2_areAlike xhd q1 q2 us) := by
  generalize hr : f_X2_areAlike xhd q1 q2 us = r
  refine fr_entryI (by decide) rfl ?_
  intro p e s m args below meth c A Q H locs hQ C hret hlk w ls hl
  have hx := C.1
  have hb := C.2.1
  have hl : lv_has ls 5 [(0, .ref au), (1, .int q1), (2, .int q2), (3, .int us)] := hl
  have hr : L_X2_areAlike_3 xhd q1 q2 us 5 0 = r := hr
  refine lv_iconst (v := 0) hx hb dX2_areAlike_0 (by decide) ?_
  refine lv_istore (lv' := [(4, .int 0), (0, .ref au), (1, .int q1), (2, .int q2), (3, .int us)]) hx hb dX2_areAlike_1 hl (by decide) rfl (fun ls hl => ?_)
  have LP3 : ∀ (n3 : Nat) (k3 : Nat) (i1 : Int32), i1 = nI k3 → k3 ≤ 4 → 4 < k3 + n3 → L_X2_areAlike_3 xhd q1 q2 us n3 i1 = r → ∀ (H : Heap) (locs : List Loc), Wd D A s.heap H locs [(au, .inr (2, [.ref auh, .ref auw, .int xsc, .int xtc])), (auh, .inl (cI, 20, .inl xhd)), (auw, .inl (cI, 4, .inl xwt))] → ∀ (ls : Array Slot), lv_has ls 5 [(0, .ref au), (1, .int q1), (2, .int q2), (3, .int us), (4, .int i1)] → W p l e (rl 2) s m args below meth c H locs 0 0 Q (F0 m 3 ls []) := by
    skip
    intro n3
    induction n3 with
    | zero => intro k3 i1 hk3 hkN3 hn3; exact absurd hn3 (by omega)
    | succ n3 ih3 =>
      intro k3 i1 hk3 hkN3 hn3 hr H locs w ls hl
      have hr : (if 4 ≤ i1 then 1 else (if (f_X6_isIn us i1) = 0 then L_X2_areAlike_3 xhd q1 q2 us n3 (i1 + 1) else (if (f_X2_heldOf xhd q1 i1) = (f_X2_heldOf xhd q2 i1) then L_X2_areAlike_3 xhd q1 q2 us n3 (i1 + 1) else 0))) = r := hr
      refine lv_iload hx hb dX2_areAlike_3 (lv_at hl 4 rfl) ?_
      refine lv_iconst (v := 4) hx hb dX2_areAlike_5 (by decide) ?_
      refine lv_icmp_ge (tgt := 43) hx hb dX2_areAlike_6 (by decide) (fun c6_2 => ?_) (fun c6_2 => ?_)
      · have hr := (if_pos c6_2).symm.trans hr
        refine lv_iconst (v := 1) hx hb dX2_areAlike_43 (by decide) ?_
        subst hr hQ
        exact fr_iret (W0 := []) C hret hlk w rfl rfl rfl dX2_areAlike_44
      · have hr := (if_neg c6_2).symm.trans hr
        have hkl3 := kl_of hk3 hkN3 (N := 4) (by decide) (by omega) c6_2
        refine lv_iload_n hx hb dX2_areAlike_9 rfl (lv_at hl 3 rfl) ?_
        refine lv_iload hx hb dX2_areAlike_10 (lv_at hl 4 rfl) ?_
        refine fr_callIN (As := [.int us, .int i1]) (rest := []) C w kf_X6_isIn C.2.2.2.2.2.2.1 (c_X6_isIn l D cI cJ us i1) ⟨Nat.le_of_ble_eq_true rfl, Nat.le_of_ble_eq_true rfl⟩ ⟨Nat.le_refl 0, Nat.le_refl 0⟩ [] rfl rfl rfl (ws' := [(au, .inr (2, [.ref auh, .ref auw, .int xsc, .int xtc])), (auh, .inl (cI, 20, .inl xhd)), (auw, .inl (cI, 4, .inl xwt))]) rfl rfl hl.1 rfl (Nat.le_of_ble_eq_true rfl) dX2_areAlike_12 (fun H locs w => ?_)
        refine lv_if_eq (tgt := 37) hx hb dX2_areAlike_15 (by decide) (fun c15_3 => ?_) (fun c15_3 => ?_)
        · have hr := (if_pos c15_3).symm.trans hr
          refine lv_iinc (v := i1 + 1) (lv' := [(4, .int (i1 + 1)), (0, .ref au), (1, .int q1), (2, .int q2), (3, .int us)]) hx hb dX2_areAlike_37 hl (k := 4) rfl rfl (by decide) rfl (fun ls hl => ?_)
          refine lv_goto (tgt := 3) hx hb dX2_areAlike_40 (by decide) ?_
          exact ih3 (k3 + 1) (i1 + 1) (by rw [hk3]; exact nI_1 k3) (by omega) (by omega) hr H locs w ls (lv_sub hl [1, 2, 3, 4, 0] rfl)
        · have hr := (if_neg c15_3).symm.trans hr
          refine lv_aload_n hx hb dX2_areAlike_18 rfl (lv_at hl 0 rfl) ?_
          refine lv_iload_n hx hb dX2_areAlike_19 rfl (lv_at hl 1 rfl) ?_
          refine lv_iload hx hb dX2_areAlike_20 (lv_at hl 4 rfl) ?_
          refine fr_callIV (As := [.int q1, .int i1]) (rest := []) C w kf_X2_heldOf mw_13_20 (c_X2_heldOf l D cI cJ au auh auw xsc xtc xhd xwt q1 i1) ⟨Nat.le_of_ble_eq_true rfl, Nat.le_of_ble_eq_true rfl⟩ ⟨Nat.le_refl 0, Nat.le_refl 0⟩ [0, 1, 2] rfl rfl rfl (ws' := [(au, .inr (2, [.ref auh, .ref auw, .int xsc, .int xtc])), (auh, .inl (cI, 20, .inl xhd)), (auw, .inl (cI, 4, .inl xwt))]) rfl rfl rfl rfl hl.1 rfl (Nat.le_of_ble_eq_true rfl) dX2_areAlike_22 (fun H locs w => ?_)
          refine lv_aload_n hx hb dX2_areAlike_25 rfl (lv_at hl 0 rfl) ?_
          refine lv_iload_n hx hb dX2_areAlike_26 rfl (lv_at hl 2 rfl) ?_
          refine lv_iload hx hb dX2_areAlike_27 (lv_at hl 4 rfl) ?_
          refine fr_callIV (As := [.int q2, .int i1]) (rest := [.int (f_X2_heldOf xhd q1 i1)]) C w kf_X2_heldOf mw_13_20 (c_X2_heldOf l D cI cJ au auh auw xsc xtc xhd xwt q2 i1) ⟨Nat.le_of_ble_eq_true rfl, Nat.le_of_ble_eq_true rfl⟩ ⟨Nat.le_refl 0, Nat.le_refl 0⟩ [0, 1, 2] rfl rfl rfl (ws' := [(au, .inr (2, [.ref auh, .ref auw, .int xsc, .int xtc])), (auh, .inl (cI, 20, .inl xhd)), (auw, .inl (cI, 4, .inl xwt))]) rfl rfl rfl rfl hl.1 rfl (Nat.le_of_ble_eq_true rfl) dX2_areAlike_29 (fun H locs w => ?_)
          refine lv_icmp_eq (tgt := 37) hx hb dX2_areAlike_32 (by decide) (fun c32_4 => ?_) (fun c32_4 => ?_)
          · have hr := (if_pos c32_4).symm.trans hr
            refine lv_iinc (v := i1 + 1) (lv' := [(4, .int (i1 + 1)), (0, .ref au), (1, .int q1), (2, .int q2), (3, .int us)]) hx hb dX2_areAlike_37 hl (k := 4) rfl rfl (by decide) rfl (fun ls hl => ?_)
            refine lv_goto (tgt := 3) hx hb dX2_areAlike_40 (by decide) ?_
            exact ih3 (k3 + 1) (i1 + 1) (by rw [hk3]; exact nI_1 k3) (by omega) (by omega) hr H locs w ls (lv_sub hl [1, 2, 3, 4, 0] rfl)
          · have hr := (if_neg c32_4).symm.trans hr
            refine lv_iconst (v := 0) hx hb dX2_areAlike_35 (by decide) ?_
            subst hr hQ
            exact fr_iret (W0 := []) C hret hlk w rfl rfl rfl dX2_areAlike_36
  exact LP3 5 0 0 (by decide) (by omega) (by omega) hr H locs w ls (lv_sub hl [1, 2, 3, 4, 0] rfl)
def L_X2_product_6 (xhd : Nat → Int32) (xwt : Nat → Int32) (ro : Int32) (ot : Int32) (us : Int32) : Nat → Int64 → Int32 → Int64 × Int32
  | 0, _, _ => (0, 0)
  | n6 + 1, i1, i2 => (if 4 ≤ i2 then (i1, i2) else ((fun (v5 : Int64) => L_X2_product_6 xhd xwt ro ot us n6 v5 (i2 + 1)) (if (f_X6_isIn us i2) = 0 then i1 else i1 + (((Int32.toInt64 (f_X2_weightOf xwt i2)) * (Int32.toInt64 (f_X2_heldOf xhd ro i2))) * (Int32.toInt64 (f_X2_heldOf xhd ot i2))))))
def f_X2_product (xhd : Nat → Int32) (xwt : Nat → Int32) (ro : Int32) (ot : Int32) (us : Int32) : Int64 := ((fun (y6 : Int64 × Int32) => y6.1) (L_X2_product_6 xhd xwt ro ot us 5 0 0))
set_option maxRecDepth 100000 in
set_option maxHeartbeats 4000000 in
theorem c_X2_product (l : Launch) (D : va_G) (cI cJ : ClassId) (au auh auw : Nat) (xsc : Int32) (xtc : Int32) (xhd : Nat → Int32) (xwt : Nat → Int32) (ro : Int32) (ot : Int32) (us : Int32) : CL l yX2_product cX2_product 7 2 D cI cJ [.ref au, .int ro, .int ot, .int us] [(au, .inr (2, [.ref auh, .ref auw, .int xsc, .int xtc])), (auh, .inl (cI, 20, .inl xhd)), (auw, .inl (cI, 4, .inl xwt))] [(au, .inr (2, [.ref auh, .ref auw, .int xsc, .int xtc])), (auh, .inl (cI, 20, .inl xhd)), (auw, .inl (cI, 4, .inl xwt))] (f_X2_product xhd xwt ro ot us) := by
  generalize hr : f_X2_product xhd xwt ro ot us = r
  refine fr_entryL (by decide) rfl ?_
  intro p e s m args below meth c A Q H locs hQ C hret hlk w ls hl
  have hx := C.1
  have hb := C.2.1
  have hl : lv_has ls 7 [(0, .ref au), (1, .int ro), (2, .int ot), (3, .int us)] := hl
  have hr : ((fun (y6 : Int64 × Int32) => y6.1) (L_X2_product_6 xhd xwt ro ot us 5 0 0)) = r := hr
  refine lv_lconst (v := 0) hx hb dX2_product_0 (by decide) ?_
  refine lv_lstore (lv' := [(4, .long 0), (0, .ref au), (1, .int ro), (2, .int ot), (3, .int us)]) hx hb dX2_product_1 hl (by decide) rfl (fun ls hl => ?_)
  refine lv_iconst (v := 0) hx hb dX2_product_3 (by decide) ?_
  refine lv_istore (lv' := [(6, .int 0), (4, .long 0), (0, .ref au), (1, .int ro), (2, .int ot), (3, .int us)]) hx hb dX2_product_4 hl (by decide) rfl (fun ls hl => ?_)
  obtain ⟨y6, hy6⟩ : ∃ y, y = L_X2_product_6 xhd xwt ro ot us 5 0 0 := ⟨_, rfl⟩
  have hr : y6.1 = r := by rw [hy6]; exact hr
  have X6 : ∀ (H : Heap) (locs : List Loc), Wd D A s.heap H locs [(au, .inr (2, [.ref auh, .ref auw, .int xsc, .int xtc])), (auh, .inl (cI, 20, .inl xhd)), (auw, .inl (cI, 4, .inl xwt))] → ∀ (ls : Array Slot), lv_has ls 7 [(0, .ref au), (1, .int ro), (2, .int ot), (3, .int us), (4, .long y6.1), (6, .int y6.2)] → W p l e (rl 2) s m args below meth c H locs 0 0 Q (F0 m 57 ls []) := by
    intro H locs w ls hl
    refine lv_lload hx hb dX2_product_57 (lv_at hl 4 rfl) ?_
    subst hr hQ
    exact fr_lret C hret hlk w rfl rfl dX2_product_59
  have LP6 : ∀ (n6 : Nat) (k6 : Nat) (i1 : Int64) (i2 : Int32), i2 = nI k6 → k6 ≤ 4 → 4 < k6 + n6 → L_X2_product_6 xhd xwt ro ot us n6 i1 i2 = y6 → ∀ (H : Heap) (locs : List Loc), Wd D A s.heap H locs [(au, .inr (2, [.ref auh, .ref auw, .int xsc, .int xtc])), (auh, .inl (cI, 20, .inl xhd)), (auw, .inl (cI, 4, .inl xwt))] → ∀ (ls : Array Slot), lv_has ls 7 [(0, .ref au), (1, .int ro), (2, .int ot), (3, .int us), (4, .long i1), (6, .int i2)] → W p l e (rl 2) s m args below meth c H locs 0 0 Q (F0 m 6 ls []) := by
    clear hr
    intro n6
    induction n6 with
    | zero => intro k6 i1 i2 hk6 hkN6 hn6; exact absurd hn6 (by omega)
    | succ n6 ih6 =>
      intro k6 i1 i2 hk6 hkN6 hn6 hr H locs w ls hl
      have hr : (if 4 ≤ i2 then (i1, i2) else ((fun (v5 : Int64) => L_X2_product_6 xhd xwt ro ot us n6 v5 (i2 + 1)) (if (f_X6_isIn us i2) = 0 then i1 else i1 + (((Int32.toInt64 (f_X2_weightOf xwt i2)) * (Int32.toInt64 (f_X2_heldOf xhd ro i2))) * (Int32.toInt64 (f_X2_heldOf xhd ot i2)))))) = y6 := hr
      refine lv_iload hx hb dX2_product_6 (lv_at hl 5 rfl) ?_
      refine lv_iconst (v := 4) hx hb dX2_product_8 (by decide) ?_
      refine lv_icmp_ge (tgt := 57) hx hb dX2_product_9 (by decide) (fun c9_3 => ?_) (fun c9_3 => ?_)
      · have hr := (if_pos c9_3).symm.trans hr
        subst hr
        exact X6 H locs w ls (lv_sub hl [0, 1, 2, 3, 4, 5] rfl)
      · have hr := (if_neg c9_3).symm.trans hr
        have hkl6 := kl_of hk6 hkN6 (N := 4) (by decide) (by omega) c9_3
        refine lv_iload_n hx hb dX2_product_12 rfl (lv_at hl 3 rfl) ?_
        refine lv_iload hx hb dX2_product_13 (lv_at hl 5 rfl) ?_
        refine fr_callIN (As := [.int us, .int i2]) (rest := []) C w kf_X6_isIn C.2.2.2.2.2.2.1 (c_X6_isIn l D cI cJ us i2) ⟨Nat.le_of_ble_eq_true rfl, Nat.le_of_ble_eq_true rfl⟩ ⟨Nat.le_refl 0, Nat.le_refl 0⟩ [] rfl rfl rfl (ws' := [(au, .inr (2, [.ref auh, .ref auw, .int xsc, .int xtc])), (auh, .inl (cI, 20, .inl xhd)), (auw, .inl (cI, 4, .inl xwt))]) rfl rfl hl.1 rfl (Nat.le_of_ble_eq_true rfl) dX2_product_15 (fun H locs w => ?_)
        have J51_6 : ∀ (v5 : Int64), v5 = (if (f_X6_isIn us i2) = 0 then i1 else i1 + (((Int32.toInt64 (f_X2_weightOf xwt i2)) * (Int32.toInt64 (f_X2_heldOf xhd ro i2))) * (Int32.toInt64 (f_X2_heldOf xhd ot i2)))) → ∀ (H : Heap) (locs : List Loc), Wd D A s.heap H locs [(au, .inr (2, [.ref auh, .ref auw, .int xsc, .int xtc])), (auh, .inl (cI, 20, .inl xhd)), (auw, .inl (cI, 4, .inl xwt))] → ∀ (ls : Array Slot), lv_has ls 7 [(0, .ref au), (1, .int ro), (2, .int ot), (3, .int us), (4, .long v5), (6, .int i2)] → W p l e (rl 2) s m args below meth c H locs 0 0 Q (F0 m 51 ls []) := by
          intro v5 ev5 H locs w ls hl
          have hr : L_X2_product_6 xhd xwt ro ot us n6 v5 (i2 + 1) = y6 := by subst ev5; exact hr
          refine lv_iinc (v := i2 + 1) (lv' := [(6, .int (i2 + 1)), (0, .ref au), (1, .int ro), (2, .int ot), (3, .int us), (4, .long v5)]) hx hb dX2_product_51 hl (k := 5) rfl rfl (by decide) rfl (fun ls hl => ?_)
          refine lv_goto (tgt := 6) hx hb dX2_product_54 (by decide) ?_
          exact ih6 (k6 + 1) v5 (i2 + 1) (by rw [hk6]; exact nI_1 k6) (by omega) (by omega) hr H locs w ls (lv_sub hl [1, 2, 3, 4, 5, 0] rfl)
        refine lv_if_eq (tgt := 51) hx hb dX2_product_18 (by decide) (fun c18_4 => ?_) (fun c18_4 => ?_)
        · exact J51_6 i1 (by rw [if_pos c18_4]) _ _ w ls (lv_sub hl [0, 1, 2, 3, 4, 5] rfl)
        · refine lv_lload hx hb dX2_product_21 (lv_at hl 4 rfl) ?_
          refine lv_aload_n hx hb dX2_product_23 rfl (lv_at hl 0 rfl) ?_
          refine lv_iload hx hb dX2_product_24 (lv_at hl 5 rfl) ?_
          refine fr_callIV (As := [.int i2]) (rest := [.long i1]) C w kf_X2_weightOf mw_17_20 (c_X2_weightOf l D cI cJ au auh auw xsc xtc xhd xwt i2) ⟨Nat.le_of_ble_eq_true rfl, Nat.le_of_ble_eq_true rfl⟩ ⟨Nat.le_refl 0, Nat.le_refl 0⟩ [0, 1, 2] rfl rfl rfl (ws' := [(au, .inr (2, [.ref auh, .ref auw, .int xsc, .int xtc])), (auh, .inl (cI, 20, .inl xhd)), (auw, .inl (cI, 4, .inl xwt))]) rfl rfl rfl rfl hl.1 rfl (Nat.le_of_ble_eq_true rfl) dX2_product_26 (fun H locs w => ?_)
          refine lv_i2l (v := (Int32.toInt64 (f_X2_weightOf xwt i2))) hx hb dX2_product_29 rfl ?_
          refine lv_aload_n hx hb dX2_product_30 rfl (lv_at hl 0 rfl) ?_
          refine lv_iload_n hx hb dX2_product_31 rfl (lv_at hl 1 rfl) ?_
          refine lv_iload hx hb dX2_product_32 (lv_at hl 5 rfl) ?_
          refine fr_callIV (As := [.int ro, .int i2]) (rest := [.long (Int32.toInt64 (f_X2_weightOf xwt i2)), .long i1]) C w kf_X2_heldOf mw_13_20 (c_X2_heldOf l D cI cJ au auh auw xsc xtc xhd xwt ro i2) ⟨Nat.le_of_ble_eq_true rfl, Nat.le_of_ble_eq_true rfl⟩ ⟨Nat.le_refl 0, Nat.le_refl 0⟩ [0, 1, 2] rfl rfl rfl (ws' := [(au, .inr (2, [.ref auh, .ref auw, .int xsc, .int xtc])), (auh, .inl (cI, 20, .inl xhd)), (auw, .inl (cI, 4, .inl xwt))]) rfl rfl rfl rfl hl.1 rfl (Nat.le_of_ble_eq_true rfl) dX2_product_34 (fun H locs w => ?_)
          refine lv_i2l (v := (Int32.toInt64 (f_X2_heldOf xhd ro i2))) hx hb dX2_product_37 rfl ?_
          refine lv_lmul hx hb dX2_product_38 ?_
          refine lv_aload_n hx hb dX2_product_39 rfl (lv_at hl 0 rfl) ?_
          refine lv_iload_n hx hb dX2_product_40 rfl (lv_at hl 2 rfl) ?_
          refine lv_iload hx hb dX2_product_41 (lv_at hl 5 rfl) ?_
          refine fr_callIV (As := [.int ot, .int i2]) (rest := [.long ((Int32.toInt64 (f_X2_weightOf xwt i2)) * (Int32.toInt64 (f_X2_heldOf xhd ro i2))), .long i1]) C w kf_X2_heldOf mw_13_20 (c_X2_heldOf l D cI cJ au auh auw xsc xtc xhd xwt ot i2) ⟨Nat.le_of_ble_eq_true rfl, Nat.le_of_ble_eq_true rfl⟩ ⟨Nat.le_refl 0, Nat.le_refl 0⟩ [0, 1, 2] rfl rfl rfl (ws' := [(au, .inr (2, [.ref auh, .ref auw, .int xsc, .int xtc])), (auh, .inl (cI, 20, .inl xhd)), (auw, .inl (cI, 4, .inl xwt))]) rfl rfl rfl rfl hl.1 rfl (Nat.le_of_ble_eq_true rfl) dX2_product_43 (fun H locs w => ?_)
          refine lv_i2l (v := (Int32.toInt64 (f_X2_heldOf xhd ot i2))) hx hb dX2_product_46 rfl ?_
          refine lv_lmul hx hb dX2_product_47 ?_
          refine lv_ladd hx hb dX2_product_48 ?_
          refine lv_lstore (lv' := [(4, .long (i1 + (((Int32.toInt64 (f_X2_weightOf xwt i2)) * (Int32.toInt64 (f_X2_heldOf xhd ro i2))) * (Int32.toInt64 (f_X2_heldOf xhd ot i2))))), (0, .ref au), (1, .int ro), (2, .int ot), (3, .int us), (6, .int i2)]) hx hb dX2_product_49 hl (by decide) rfl (fun ls hl => ?_)
          exact J51_6 (i1 + (((Int32.toInt64 (f_X2_weightOf xwt i2)) * (Int32.toInt64 (f_X2_heldOf xhd ro i2))) * (Int32.toInt64 (f_X2_heldOf xhd ot i2)))) (by rw [if_neg c18_4]) _ _ w ls (lv_sub hl [1, 2, 3, 4, 0, 5] rfl)
  exact LP6 5 0 0 0 (by decide) (by omega) (by omega) hy6.symm H locs w ls (lv_sub hl [2, 3, 4, 5, 1, 0] rfl)
