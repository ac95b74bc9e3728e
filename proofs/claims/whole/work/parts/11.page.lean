theorem mw_5_6 : Cond.fieldLink RX4 15 "MudShares$Page" "length" "I" ∈ wsL_law := ck_5 _ (List.mem_of_getElem? (i := 6) rfl)
theorem mw_2_13 : Cond.fieldLink RX4 9 "MudShares$Page" "codes" "[I" ∈ wsL_law := ck_2 _ (List.mem_of_getElem? (i := 13) rfl)
theorem fg_X4_15 : FG RX4 15 4 1 := ⟨RX4, TX4, 2, rfl, by decide, inlX4, mw_5_6⟩
theorem fg_X4_9 : FG RX4 9 4 0 := ⟨RX4, TX4, 2, rfl, by decide, inlX4, mw_2_13⟩
theorem fp_X4_15 : FP RX4 15 4 1 .int := ⟨RX4, TX4, 2, tyX4, rfl, by decide, inlX4, mw_5_6, tyX4_ok, nmX4, rfl, by decide +kernel⟩
def f_X4_isFull (xpl : Int32) : Int32 := (if xpl < 47 then 0 else 1)
set_option maxRecDepth 100000 in
set_option maxHeartbeats 4000000 in
theorem c_X4_isFull (l : Launch) (D : va_G) (cI cJ : ClassId) (ap apc : Nat) (xpl : Int32) (xpc : Nat → Int32)  : CI l yX4_isFull cX4_isFull 1 .boolean 0 D cI cJ [.ref ap] [(ap, .inr (4, [.ref apc, .int xpl])), (apc, .inl (cI, 47, .inl xpc))] [(ap, .inr (4, [.ref apc, .int xpl])), (apc, .inl (cI, 47, .inl xpc))] (f_X4_isFull xpl) := by
  generalize hr : f_X4_isFull xpl = r
  refine fr_entryI (by decide) rfl ?_
  intro p e s m args below meth c A Q H locs hQ C hret hlk w ls hl
  have hx := C.1
  have hb := C.2.1
  have hl : lv_has ls 1 [(0, .ref ap)] := hl
  have hr : (if xpl < 47 then 0 else 1) = r := hr
  refine lv_aload_n hx hb dX4_isFull_0 rfl (lv_at hl 0 rfl) ?_
  refine fr_get C w fg_X4_15 0 rfl rfl dX4_isFull_1 ?_
  refine lv_bipush (v := 47) hx hb dX4_isFull_4 (by decide) ?_
  refine lv_icmp_lt (tgt := 13) hx hb dX4_isFull_6 (by decide) (fun c6_1 => ?_) (fun c6_1 => ?_)
  · have hr := (if_pos c6_1).symm.trans hr
    refine lv_iconst (v := 0) hx hb dX4_isFull_13 (by decide) ?_
    subst hr hQ
    exact fr_iret (W0 := []) C hret hlk w rfl rfl rfl dX4_isFull_14
  · have hr := (if_neg c6_1).symm.trans hr
    refine lv_iconst (v := 1) hx hb dX4_isFull_9 (by decide) ?_
    refine lv_goto (tgt := 14) hx hb dX4_isFull_10 (by decide) ?_
    subst hr hQ
    exact fr_iret (W0 := []) C hret hlk w rfl rfl rfl dX4_isFull_14
theorem b_X4_isFull (xpl : Int32) : (f_X4_isFull xpl) = 0 ∨ (f_X4_isFull xpl) = 1 := by
  unfold f_X4_isFull
  try dsimp only
  repeat (first | exact Or.inl rfl | exact Or.inr rfl | split)
def f_X4_append (xpl : Int32) (xpc : Nat → Int32) (q1 : Int32) : Int32 × (Nat → Int32) := (if xpl < 0 then (xpl, xpc) else (if 47 ≤ xpl then (xpl, xpc) else (xpl + 1, upd xpc (Int32.toNatClampNeg xpl) q1)))
set_option maxRecDepth 100000 in
set_option maxHeartbeats 4000000 in
theorem c_X4_append (l : Launch) (D : va_G) (cI cJ : ClassId) (ap apc : Nat) (xpl : Int32) (xpc : Nat → Int32) (q1 : Int32) : CV l yX4_append cX4_append 2 0 D cI cJ [.ref ap, .int q1] [(ap, .inr (4, [.ref apc, .int xpl])), (apc, .inl (cI, 47, .inl xpc))] [(ap, .inr (4, [.ref apc, .int ((f_X4_append xpl xpc q1).1)])), (apc, .inl (cI, 47, .inl ((f_X4_append xpl xpc q1).2)))] := by
  generalize hr : f_X4_append xpl xpc q1 = r
  refine fr_entryV (by decide) rfl ?_
  intro p e s m args below meth c A Q H locs hQ C hret hlk w ls hl
  have hx := C.1
  have hb := C.2.1
  have hl : lv_has ls 2 [(0, .ref ap), (1, .int q1)] := hl
  have hr : (if xpl < 0 then (xpl, xpc) else (if 47 ≤ xpl then (xpl, xpc) else (xpl + 1, upd xpc (Int32.toNatClampNeg xpl) q1))) = r := hr
  refine lv_aload_n hx hb dX4_append_0 rfl (lv_at hl 0 rfl) ?_
  refine fr_get C w fg_X4_15 0 rfl rfl dX4_append_1 ?_
  refine lv_if_lt (tgt := 36) hx hb dX4_append_4 (by decide) (fun c4_1 => ?_) (fun c4_1 => ?_)
  · have hr := (if_pos c4_1).symm.trans hr
    subst hr hQ
    exact fr_vret C hret hlk w rfl dX4_append_36
  · have hr := (if_neg c4_1).symm.trans hr
    refine lv_aload_n hx hb dX4_append_7 rfl (lv_at hl 0 rfl) ?_
    refine fr_get C w fg_X4_15 0 rfl rfl dX4_append_8 ?_
    refine lv_bipush (v := 47) hx hb dX4_append_11 (by decide) ?_
    refine lv_icmp_ge (tgt := 36) hx hb dX4_append_13 (by decide) (fun c13_2 => ?_) (fun c13_2 => ?_)
    · have hr := (if_pos c13_2).symm.trans hr
      subst hr hQ
      exact fr_vret C hret hlk w rfl dX4_append_36
    · have hr := (if_neg c13_2).symm.trans hr
      refine lv_aload_n hx hb dX4_append_16 rfl (lv_at hl 0 rfl) ?_
      refine fr_get C w fg_X4_9 0 rfl rfl dX4_append_17 ?_
      refine lv_aload_n hx hb dX4_append_20 rfl (lv_at hl 0 rfl) ?_
      refine fr_get C w fg_X4_15 0 rfl rfl dX4_append_21 ?_
      refine lv_iload_n hx hb dX4_append_24 rfl (lv_at hl 1 rfl) ?_
      refine fr_iast C w 1 rfl (vi_guard (by assumption) (by assumption) (by decide)) (ws' := [(ap, .inr (4, [.ref apc, .int xpl])), (apc, .inl (cI, 47, .inl (upd xpc (Int32.toNatClampNeg xpl) q1)))]) rfl dX4_append_25 (fun H locs w => ?_)
      refine lv_aload_n hx hb dX4_append_26 rfl (lv_at hl 0 rfl) ?_
      refine lv_dup hx hb dX4_append_27 rfl ?_
      refine fr_get C w fg_X4_15 0 rfl rfl dX4_append_28 ?_
      refine lv_iconst (v := 1) hx hb dX4_append_31 (by decide) ?_
      refine lv_iadd hx hb dX4_append_32 ?_
      refine fr_put C w fp_X4_15 0 rfl rfl rfl rfl (ws' := [(ap, .inr (4, [.ref apc, .int (xpl + 1)])), (apc, .inl (cI, 47, .inl (upd xpc (Int32.toNatClampNeg xpl) q1)))]) rfl dX4_append_33 (fun H locs w => ?_)
      subst hr hQ
      exact fr_vret C hret hlk w rfl dX4_append_36
def f_X4_empty  : Int32 := 0
set_option maxRecDepth 100000 in
set_option maxHeartbeats 4000000 in
theorem c_X4_empty (l : Launch) (D : va_G) (cI cJ : ClassId) (ap apc : Nat) (xpl : Int32) (xpc : Nat → Int32)  : CV l yX4_empty cX4_empty 1 0 D cI cJ [.ref ap] [(ap, .inr (4, [.ref apc, .int xpl])), (apc, .inl (cI, 47, .inl xpc))] [(ap, .inr (4, [.ref apc, .int f_X4_empty])), (apc, .inl (cI, 47, .inl xpc))] := by
  generalize hr : f_X4_empty = r
  refine fr_entryV (by decide) rfl ?_
  intro p e s m args below meth c A Q H locs hQ C hret hlk w ls hl
  have hx := C.1
  have hb := C.2.1
  have hl : lv_has ls 1 [(0, .ref ap)] := hl
  have hr : 0 = r := hr
  refine lv_aload_n hx hb dX4_empty_0 rfl (lv_at hl 0 rfl) ?_
  refine lv_iconst (v := 0) hx hb dX4_empty_1 (by decide) ?_
  refine fr_put C w fp_X4_15 0 rfl rfl rfl rfl (ws' := [(ap, .inr (4, [.ref apc, .int 0])), (apc, .inl (cI, 47, .inl xpc))]) rfl dX4_empty_2 (fun H locs w => ?_)
  subst hr hQ
  exact fr_vret C hret hlk w rfl dX4_empty_5
def f_X4_codeAt (xpl : Int32) (xpc : Nat → Int32) (q1 : Int32) : Int32 := (if q1 < 0 then 0 else (if xpl ≤ q1 then 0 else (if 47 ≤ q1 then 0 else xpc (Int32.toNatClampNeg q1))))
set_option maxRecDepth 100000 in
set_option maxHeartbeats 4000000 in
theorem c_X4_codeAt (l : Launch) (D : va_G) (cI cJ : ClassId) (ap apc : Nat) (xpl : Int32) (xpc : Nat → Int32) (q1 : Int32) : CI l yX4_codeAt cX4_codeAt 2 .int 0 D cI cJ [.ref ap, .int q1] [(ap, .inr (4, [.ref apc, .int xpl])), (apc, .inl (cI, 47, .inl xpc))] [(ap, .inr (4, [.ref apc, .int xpl])), (apc, .inl (cI, 47, .inl xpc))] (f_X4_codeAt xpl xpc q1) := by
  generalize hr : f_X4_codeAt xpl xpc q1 = r
  refine fr_entryI (by decide) rfl ?_
  intro p e s m args below meth c A Q H locs hQ C hret hlk w ls hl
  have hx := C.1
  have hb := C.2.1
  have hl : lv_has ls 2 [(0, .ref ap), (1, .int q1)] := hl
  have hr : (if q1 < 0 then 0 else (if xpl ≤ q1 then 0 else (if 47 ≤ q1 then 0 else xpc (Int32.toNatClampNeg q1)))) = r := hr
  refine lv_iload_n hx hb dX4_codeAt_0 rfl (lv_at hl 1 rfl) ?_
  refine lv_if_lt (tgt := 27) hx hb dX4_codeAt_1 (by decide) (fun c1_1 => ?_) (fun c1_1 => ?_)
  · have hr := (if_pos c1_1).symm.trans hr
    refine lv_iconst (v := 0) hx hb dX4_codeAt_27 (by decide) ?_
    subst hr hQ
    exact fr_iret (W0 := []) C hret hlk w rfl rfl rfl dX4_codeAt_28
  · have hr := (if_neg c1_1).symm.trans hr
    refine lv_iload_n hx hb dX4_codeAt_4 rfl (lv_at hl 1 rfl) ?_
    refine lv_aload_n hx hb dX4_codeAt_5 rfl (lv_at hl 0 rfl) ?_
    refine fr_get C w fg_X4_15 0 rfl rfl dX4_codeAt_6 ?_
    refine lv_icmp_ge (tgt := 27) hx hb dX4_codeAt_9 (by decide) (fun c9_2 => ?_) (fun c9_2 => ?_)
    · have hr := (if_pos c9_2).symm.trans hr
      refine lv_iconst (v := 0) hx hb dX4_codeAt_27 (by decide) ?_
      subst hr hQ
      exact fr_iret (W0 := []) C hret hlk w rfl rfl rfl dX4_codeAt_28
    · have hr := (if_neg c9_2).symm.trans hr
      refine lv_iload_n hx hb dX4_codeAt_12 rfl (lv_at hl 1 rfl) ?_
      refine lv_bipush (v := 47) hx hb dX4_codeAt_13 (by decide) ?_
      refine lv_icmp_ge (tgt := 27) hx hb dX4_codeAt_15 (by decide) (fun c15_3 => ?_) (fun c15_3 => ?_)
      · have hr := (if_pos c15_3).symm.trans hr
        refine lv_iconst (v := 0) hx hb dX4_codeAt_27 (by decide) ?_
        subst hr hQ
        exact fr_iret (W0 := []) C hret hlk w rfl rfl rfl dX4_codeAt_28
      · have hr := (if_neg c15_3).symm.trans hr
        refine lv_aload_n hx hb dX4_codeAt_18 rfl (lv_at hl 0 rfl) ?_
        refine fr_get C w fg_X4_9 0 rfl rfl dX4_codeAt_19 ?_
        refine lv_iload_n hx hb dX4_codeAt_22 rfl (lv_at hl 1 rfl) ?_
        refine fr_iald C w 1 rfl (vi_guard (by assumption) (by assumption) (by decide)) dX4_codeAt_23 ?_
        refine lv_goto (tgt := 28) hx hb dX4_codeAt_24 (by decide) ?_
        subst hr hQ
        exact fr_iret (W0 := []) C hret hlk w rfl rfl rfl dX4_codeAt_28
