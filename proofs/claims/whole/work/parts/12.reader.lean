theorem mw_6_22 : Cond.fieldLink RX5 42 "MudShares$Reader" "source" "I" ∈ wsL_law := ck_6 _ (List.mem_of_getElem? (i := 22) rfl)
theorem mw_6_23 : Cond.fieldLink RX5 45 "MudShares$Reader" "tracer" "I" ∈ wsL_law := ck_6 _ (List.mem_of_getElem? (i := 23) rfl)
theorem mw_2_18 : Cond.fieldLink RX5 9 "MudShares$Reader" "draft" "[I" ∈ wsL_law := ck_2 _ (List.mem_of_getElem? (i := 18) rfl)
theorem mw_7_0 : Cond.fieldLink RX5 48 "MudShares$Reader" "width" "I" ∈ wsL_law := ck_7 _ (List.mem_of_getElem? (i := 0) rfl)
theorem mw_7_1 : Cond.fieldLink RX5 32 "MudShares$Reader" "number" "I" ∈ wsL_law := ck_7 _ (List.mem_of_getElem? (i := 1) rfl)
theorem mw_7_14 : Cond.methodLink RX5 39 yX5_keepNumber ∈ wsL_law := ck_7 _ (List.mem_of_getElem? (i := 14) rfl)
theorem mw_7_17 : Cond.code yX5_keepNumber cX5_keepNumber 2 none ∈ wsL_law := ck_7 _ (List.mem_of_getElem? (i := 17) rfl)
theorem mw_1_18 : Cond.initialized RX5 ∈ wsL_law := ck_1 _ (List.mem_of_getElem? (i := 18) rfl)
theorem mw_7_15 : Cond.instanceMethod yX5_keepNumber ∈ wsL_law := ck_7 _ (List.mem_of_getElem? (i := 15) rfl)
theorem mw_7_16 : Cond.selects RX5 yX5_keepNumber yX5_keepNumber ∈ wsL_law := ck_7 _ (List.mem_of_getElem? (i := 16) rfl)
theorem mw_7_22 : Cond.methodLink RX5 35 yX5_isLastTracer ∈ wsL_law := ck_7 _ (List.mem_of_getElem? (i := 22) rfl)
theorem mw_8_1 : Cond.code yX5_isLastTracer cX5_isLastTracer 1 (some .boolean) ∈ wsL_law := ck_8 _ (List.mem_of_getElem? (i := 1) rfl)
theorem mw_7_23 : Cond.instanceMethod yX5_isLastTracer ∈ wsL_law := ck_7 _ (List.mem_of_getElem? (i := 23) rfl)
theorem mw_8_0 : Cond.selects RX5 yX5_isLastTracer yX5_isLastTracer ∈ wsL_law := ck_8 _ (List.mem_of_getElem? (i := 0) rfl)
theorem mw_7_10 : Cond.methodLink RX5 51 yX5_takesComma ∈ wsL_law := ck_7 _ (List.mem_of_getElem? (i := 10) rfl)
theorem mw_7_13 : Cond.code yX5_takesComma cX5_takesComma 2 (some .boolean) ∈ wsL_law := ck_7 _ (List.mem_of_getElem? (i := 13) rfl)
theorem mw_7_11 : Cond.instanceMethod yX5_takesComma ∈ wsL_law := ck_7 _ (List.mem_of_getElem? (i := 11) rfl)
theorem mw_7_12 : Cond.selects RX5 yX5_takesComma yX5_takesComma ∈ wsL_law := ck_7 _ (List.mem_of_getElem? (i := 12) rfl)
theorem mw_7_18 : Cond.methodLink RX5 54 yX5_takesSemicolon ∈ wsL_law := ck_7 _ (List.mem_of_getElem? (i := 18) rfl)
theorem mw_7_21 : Cond.code yX5_takesSemicolon cX5_takesSemicolon 1 (some .boolean) ∈ wsL_law := ck_7 _ (List.mem_of_getElem? (i := 21) rfl)
theorem mw_7_19 : Cond.instanceMethod yX5_takesSemicolon ∈ wsL_law := ck_7 _ (List.mem_of_getElem? (i := 19) rfl)
theorem mw_7_20 : Cond.selects RX5 yX5_takesSemicolon yX5_takesSemicolon ∈ wsL_law := ck_7 _ (List.mem_of_getElem? (i := 20) rfl)
theorem mw_8_2 : Cond.methodLink RX5 57 yX5_takesFigure ∈ wsL_law := ck_8 _ (List.mem_of_getElem? (i := 2) rfl)
theorem mw_8_5 : Cond.code yX5_takesFigure cX5_takesFigure 3 (some .boolean) ∈ wsL_law := ck_8 _ (List.mem_of_getElem? (i := 5) rfl)
theorem mw_8_3 : Cond.instanceMethod yX5_takesFigure ∈ wsL_law := ck_8 _ (List.mem_of_getElem? (i := 3) rfl)
theorem mw_8_4 : Cond.selects RX5 yX5_takesFigure yX5_takesFigure ∈ wsL_law := ck_8 _ (List.mem_of_getElem? (i := 4) rfl)
theorem mw_6_18 : Cond.methodLink RX5 15 yX5_start ∈ wsL_law := ck_6 _ (List.mem_of_getElem? (i := 18) rfl)
theorem mw_6_21 : Cond.code yX5_start cX5_start 2 none ∈ wsL_law := ck_6 _ (List.mem_of_getElem? (i := 21) rfl)
theorem mw_6_19 : Cond.instanceMethod yX5_start ∈ wsL_law := ck_6 _ (List.mem_of_getElem? (i := 19) rfl)
theorem mw_6_20 : Cond.selects RX5 yX5_start yX5_start ∈ wsL_law := ck_6 _ (List.mem_of_getElem? (i := 20) rfl)
theorem mw_6_17 : Cond.fieldLink RX5 18 "MudShares$Page" "length" "I" ∈ wsL_law := ck_6 _ (List.mem_of_getElem? (i := 17) rfl)
theorem mw_7_2 : Cond.methodLink RX5 24 yX4_codeAt ∈ wsL_law := ck_7 _ (List.mem_of_getElem? (i := 2) rfl)
theorem mw_7_5 : Cond.code yX4_codeAt cX4_codeAt 2 (some .int) ∈ wsL_law := ck_7 _ (List.mem_of_getElem? (i := 5) rfl)
theorem mw_1_14 : Cond.initialized RX4 ∈ wsL_law := ck_1 _ (List.mem_of_getElem? (i := 14) rfl)
theorem mw_7_3 : Cond.instanceMethod yX4_codeAt ∈ wsL_law := ck_7 _ (List.mem_of_getElem? (i := 3) rfl)
theorem mw_7_4 : Cond.selects RX4 yX4_codeAt yX4_codeAt ∈ wsL_law := ck_7 _ (List.mem_of_getElem? (i := 4) rfl)
theorem mw_7_6 : Cond.methodLink RX5 28 yX5_takes ∈ wsL_law := ck_7 _ (List.mem_of_getElem? (i := 6) rfl)
theorem mw_7_9 : Cond.code yX5_takes cX5_takes 2 (some .boolean) ∈ wsL_law := ck_7 _ (List.mem_of_getElem? (i := 9) rfl)
theorem mw_7_7 : Cond.instanceMethod yX5_takes ∈ wsL_law := ck_7 _ (List.mem_of_getElem? (i := 7) rfl)
theorem mw_7_8 : Cond.selects RX5 yX5_takes yX5_takes ∈ wsL_law := ck_7 _ (List.mem_of_getElem? (i := 8) rfl)
theorem fg_X5_42 : FG RX5 42 5 1 := ⟨RX5, TX5, 5, rfl, by decide, inlX5, mw_6_22⟩
theorem fg_X5_45 : FG RX5 45 5 2 := ⟨RX5, TX5, 5, rfl, by decide, inlX5, mw_6_23⟩
theorem fg_X5_9 : FG RX5 9 5 0 := ⟨RX5, TX5, 5, rfl, by decide, inlX5, mw_2_18⟩
theorem fp_X5_42 : FP RX5 42 5 1 .int := ⟨RX5, TX5, 5, tyX5, rfl, by decide, inlX5, mw_6_22, tyX5_ok, nmX5, rfl, by decide +kernel⟩
theorem fp_X5_45 : FP RX5 45 5 2 .int := ⟨RX5, TX5, 5, tyX5, rfl, by decide, inlX5, mw_6_23, tyX5_ok, nmX5, rfl, by decide +kernel⟩
theorem fp_X5_48 : FP RX5 48 5 3 .int := ⟨RX5, TX5, 5, tyX5, rfl, by decide, inlX5, mw_7_0, tyX5_ok, nmX5, rfl, by decide +kernel⟩
theorem fp_X5_32 : FP RX5 32 5 4 .int := ⟨RX5, TX5, 5, tyX5, rfl, by decide, inlX5, mw_7_1, tyX5_ok, nmX5, rfl, by decide +kernel⟩
theorem fg_X5_32 : FG RX5 32 5 4 := ⟨RX5, TX5, 5, rfl, by decide, inlX5, mw_7_1⟩
theorem fg_X5_48 : FG RX5 48 5 3 := ⟨RX5, TX5, 5, rfl, by decide, inlX5, mw_7_0⟩
theorem fg_X5_18 : FG RX5 18 4 1 := ⟨RX4, TX4, 2, rfl, by decide, inlX4, mw_6_17⟩
theorem kf_X5_keepNumber : KV RX5 yX5_keepNumber cX5_keepNumber 2 none 0 := ⟨mw_7_17, mw_7_15, mw_7_16, mw_1_18, by decide, by decide, by decide +kernel⟩
theorem kf_X5_isLastTracer : KV RX5 yX5_isLastTracer cX5_isLastTracer 1 (some .boolean) 0 := ⟨mw_8_1, mw_7_23, mw_8_0, mw_1_18, by decide, by decide, by decide +kernel⟩
theorem kf_X5_takesComma : KV RX5 yX5_takesComma cX5_takesComma 2 (some .boolean) 0 := ⟨mw_7_13, mw_7_11, mw_7_12, mw_1_18, by decide, by decide, by decide +kernel⟩
theorem kf_X5_takesSemicolon : KV RX5 yX5_takesSemicolon cX5_takesSemicolon 1 (some .boolean) 0 := ⟨mw_7_21, mw_7_19, mw_7_20, mw_1_18, by decide, by decide, by decide +kernel⟩
theorem kf_X5_takesFigure : KV RX5 yX5_takesFigure cX5_takesFigure 3 (some .boolean) 1 := ⟨mw_8_5, mw_8_3, mw_8_4, mw_1_18, by decide, by decide, by decide +kernel⟩
theorem kf_X5_start : KV RX5 yX5_start cX5_start 2 none 0 := ⟨mw_6_21, mw_6_19, mw_6_20, mw_1_18, by decide, by decide, by decide +kernel⟩
theorem kf_X4_codeAt : KV RX4 yX4_codeAt cX4_codeAt 2 (some .int) 1 := ⟨mw_7_5, mw_7_3, mw_7_4, mw_1_14, by decide, by decide, by decide +kernel⟩
theorem kf_X5_takes : KV RX5 yX5_takes cX5_takes 2 (some .boolean) 1 := ⟨mw_7_9, mw_7_7, mw_7_8, mw_1_18, by decide, by decide, by decide +kernel⟩
def f_X5_sourcesRead (xso : Int32) : Int32 := xso + 1
set_option maxRecDepth 100000 in
set_option maxHeartbeats 4000000 in
theorem c_X5_sourcesRead (l : Launch) (D : va_G) (cI cJ : ClassId) (ar ard : Nat) (xso : Int32) (xtr : Int32) (xwi : Int32) (xnu : Int32) (xdr : Nat → Int32)  : CI l yX5_sourcesRead cX5_sourcesRead 1 .int 0 D cI cJ [.ref ar] [(ar, .inr (5, [.ref ard, .int xso, .int xtr, .int xwi, .int xnu])), (ard, .inl (cI, 16, .inl xdr))] [(ar, .inr (5, [.ref ard, .int xso, .int xtr, .int xwi, .int xnu])), (ard, .inl (cI, 16, .inl xdr))] (f_X5_sourcesRead xso) := by
  generalize hr : f_X5_sourcesRead xso = r
  refine fr_entryI (by decide) rfl ?_
  intro p e s m args below meth c A Q H locs hQ C hret hlk w ls hl
  have hx := C.1
  have hb := C.2.1
  have hl : lv_has ls 1 [(0, .ref ar)] := hl
  have hr : xso + 1 = r := hr
  refine lv_aload_n hx hb dX5_sourcesRead_0 rfl (lv_at hl 0 rfl) ?_
  refine fr_get C w fg_X5_42 0 rfl rfl dX5_sourcesRead_1 ?_
  refine lv_iconst (v := 1) hx hb dX5_sourcesRead_4 (by decide) ?_
  refine lv_iadd hx hb dX5_sourcesRead_5 ?_
  subst hr hQ
  exact fr_iret (W0 := []) C hret hlk w rfl rfl rfl dX5_sourcesRead_6
def f_X5_tracersRead (xtr : Int32) : Int32 := xtr + 1
set_option maxRecDepth 100000 in
set_option maxHeartbeats 4000000 in
theorem c_X5_tracersRead (l : Launch) (D : va_G) (cI cJ : ClassId) (ar ard : Nat) (xso : Int32) (xtr : Int32) (xwi : Int32) (xnu : Int32) (xdr : Nat → Int32)  : CI l yX5_tracersRead cX5_tracersRead 1 .int 0 D cI cJ [.ref ar] [(ar, .inr (5, [.ref ard, .int xso, .int xtr, .int xwi, .int xnu])), (ard, .inl (cI, 16, .inl xdr))] [(ar, .inr (5, [.ref ard, .int xso, .int xtr, .int xwi, .int xnu])), (ard, .inl (cI, 16, .inl xdr))] (f_X5_tracersRead xtr) := by
  generalize hr : f_X5_tracersRead xtr = r
  refine fr_entryI (by decide) rfl ?_
  intro p e s m args below meth c A Q H locs hQ C hret hlk w ls hl
  have hx := C.1
  have hb := C.2.1
  have hl : lv_has ls 1 [(0, .ref ar)] := hl
  have hr : xtr + 1 = r := hr
  refine lv_aload_n hx hb dX5_tracersRead_0 rfl (lv_at hl 0 rfl) ?_
  refine fr_get C w fg_X5_45 0 rfl rfl dX5_tracersRead_1 ?_
  refine lv_iconst (v := 1) hx hb dX5_tracersRead_4 (by decide) ?_
  refine lv_iadd hx hb dX5_tracersRead_5 ?_
  subst hr hQ
  exact fr_iret (W0 := []) C hret hlk w rfl rfl rfl dX5_tracersRead_6
def f_X5_draftOf (xdr : Nat → Int32) (q1 : Int32) (q2 : Int32) : Int32 := (if ((q1 * 4) + q2) < 0 then 0 else (if 16 ≤ ((q1 * 4) + q2) then 0 else xdr (Int32.toNatClampNeg ((q1 * 4) + q2))))
set_option maxRecDepth 100000 in
set_option maxHeartbeats 4000000 in
theorem c_X5_draftOf (l : Launch) (D : va_G) (cI cJ : ClassId) (ar ard : Nat) (xso : Int32) (xtr : Int32) (xwi : Int32) (xnu : Int32) (xdr : Nat → Int32) (q1 : Int32) (q2 : Int32) : CI l yX5_draftOf cX5_draftOf 4 .int 0 D cI cJ [.ref ar, .int q1, .int q2] [(ar, .inr (5, [.ref ard, .int xso, .int xtr, .int xwi, .int xnu])), (ard, .inl (cI, 16, .inl xdr))] [(ar, .inr (5, [.ref ard, .int xso, .int xtr, .int xwi, .int xnu])), (ard, .inl (cI, 16, .inl xdr))] (f_X5_draftOf xdr q1 q2) := by
  generalize hr : f_X5_draftOf xdr q1 q2 = r
  refine fr_entryI (by decide) rfl ?_
  intro p e s m args below meth c A Q H locs hQ C hret hlk w ls hl
  have hx := C.1
  have hb := C.2.1
  have hl : lv_has ls 4 [(0, .ref ar), (1, .int q1), (2, .int q2)] := hl
  have hr : (if ((q1 * 4) + q2) < 0 then 0 else (if 16 ≤ ((q1 * 4) + q2) then 0 else xdr (Int32.toNatClampNeg ((q1 * 4) + q2)))) = r := hr
  refine lv_iload_n hx hb dX5_draftOf_0 rfl (lv_at hl 1 rfl) ?_
  refine lv_iconst (v := 4) hx hb dX5_draftOf_1 (by decide) ?_
  refine lv_imul hx hb dX5_draftOf_2 ?_
  refine lv_iload_n hx hb dX5_draftOf_3 rfl (lv_at hl 2 rfl) ?_
  refine lv_iadd hx hb dX5_draftOf_4 ?_
  refine lv_istore_n (lv' := [(3, .int ((q1 * 4) + q2)), (0, .ref ar), (1, .int q1), (2, .int q2)]) hx hb dX5_draftOf_5 rfl hl (by decide) rfl (fun ls hl => ?_)
  refine lv_iload_n hx hb dX5_draftOf_6 rfl (lv_at hl 0 rfl) ?_
  refine lv_if_lt (tgt := 25) hx hb dX5_draftOf_7 (by decide) (fun c7_1 => ?_) (fun c7_1 => ?_)
  · have hr := (if_pos c7_1).symm.trans hr
    refine lv_iconst (v := 0) hx hb dX5_draftOf_25 (by decide) ?_
    subst hr hQ
    exact fr_iret (W0 := []) C hret hlk w rfl rfl rfl dX5_draftOf_26
  · have hr := (if_neg c7_1).symm.trans hr
    refine lv_iload_n hx hb dX5_draftOf_10 rfl (lv_at hl 0 rfl) ?_
    refine lv_bipush (v := 16) hx hb dX5_draftOf_11 (by decide) ?_
    refine lv_icmp_ge (tgt := 25) hx hb dX5_draftOf_13 (by decide) (fun c13_2 => ?_) (fun c13_2 => ?_)
    · have hr := (if_pos c13_2).symm.trans hr
      refine lv_iconst (v := 0) hx hb dX5_draftOf_25 (by decide) ?_
      subst hr hQ
      exact fr_iret (W0 := []) C hret hlk w rfl rfl rfl dX5_draftOf_26
    · have hr := (if_neg c13_2).symm.trans hr
      refine lv_aload_n hx hb dX5_draftOf_16 rfl (lv_at hl 1 rfl) ?_
      refine fr_get C w fg_X5_9 0 rfl rfl dX5_draftOf_17 ?_
      refine lv_iload_n hx hb dX5_draftOf_20 rfl (lv_at hl 0 rfl) ?_
      refine fr_iald C w 1 rfl (vi_guard (by assumption) (by assumption) (by decide)) dX5_draftOf_21 ?_
      refine lv_goto (tgt := 26) hx hb dX5_draftOf_22 (by decide) ?_
      subst hr hQ
      exact fr_iret (W0 := []) C hret hlk w rfl rfl rfl dX5_draftOf_26
def L_X5_start_2  : Nat → Int32 → (Nat → Int32) → Int32 × (Nat → Int32)
  | 0, _, _ => (0, fun _ => 0)
  | n2 + 1, i1, w2 => (if 16 ≤ i1 then (i1, w2) else L_X5_start_2  n2 (i1 + 1) (upd w2 (Int32.toNatClampNeg i1) 0))
def f_X5_start (xdr : Nat → Int32) : Int32 × Int32 × Int32 × Int32 × (Nat → Int32) := ((fun (y2 : Int32 × (Nat → Int32)) => (0, 0, 0, (-1), y2.2)) (L_X5_start_2 17 0 xdr))
set_option maxRecDepth 100000 in
set_option maxHeartbeats 4000000 in
theorem c_X5_start (l : Launch) (D : va_G) (cI cJ : ClassId) (ar ard : Nat) (xso : Int32) (xtr : Int32) (xwi : Int32) (xnu : Int32) (xdr : Nat → Int32)  : CV l yX5_start cX5_start 2 0 D cI cJ [.ref ar] [(ar, .inr (5, [.ref ard, .int xso, .int xtr, .int xwi, .int xnu])), (ard, .inl (cI, 16, .inl xdr))] [(ar, .inr (5, [.ref ard, .int ((f_X5_start xdr).1), .int ((f_X5_start xdr).2.1), .int ((f_X5_start xdr).2.2.1), .int ((f_X5_start xdr).2.2.2.1)])), (ard, .inl (cI, 16, .inl ((f_X5_start xdr).2.2.2.2)))] := by
  generalize hr : f_X5_start xdr = r
  refine fr_entryV (by decide) rfl ?_
  intro p e s m args below meth c A Q H locs hQ C hret hlk w ls hl
  have hx := C.1
  have hb := C.2.1
  have hl : lv_has ls 2 [(0, .ref ar)] := hl
  have hr : ((fun (y2 : Int32 × (Nat → Int32)) => (0, 0, 0, (-1), y2.2)) (L_X5_start_2 17 0 xdr)) = r := hr
  refine lv_iconst (v := 0) hx hb dX5_start_0 (by decide) ?_
  refine lv_istore_n (lv' := [(1, .int 0), (0, .ref ar)]) hx hb dX5_start_1 rfl hl (by decide) rfl (fun ls hl => ?_)
  obtain ⟨y2, hy2⟩ : ∃ y, y = L_X5_start_2 17 0 xdr := ⟨_, rfl⟩
  have hr : (0, 0, 0, (-1), y2.2) = r := by rw [hy2]; exact hr
  have X2 : ∀ (H : Heap) (locs : List Loc), Wd D A s.heap H locs [(ar, .inr (5, [.ref ard, .int xso, .int xtr, .int xwi, .int xnu])), (ard, .inl (cI, 16, .inl y2.2))] → ∀ (ls : Array Slot), lv_has ls 2 [(0, .ref ar), (1, .int y2.1)] → W p l e (rl 0) s m args below meth c H locs 0 0 Q (F0 m 21 ls []) := by
    intro H locs w ls hl
    refine lv_aload_n hx hb dX5_start_21 rfl (lv_at hl 0 rfl) ?_
    refine lv_iconst (v := 0) hx hb dX5_start_22 (by decide) ?_
    refine fr_put C w fp_X5_42 0 rfl rfl rfl rfl (ws' := [(ar, .inr (5, [.ref ard, .int 0, .int xtr, .int xwi, .int xnu])), (ard, .inl (cI, 16, .inl y2.2))]) rfl dX5_start_23 (fun H locs w => ?_)
    refine lv_aload_n hx hb dX5_start_26 rfl (lv_at hl 0 rfl) ?_
    refine lv_iconst (v := 0) hx hb dX5_start_27 (by decide) ?_
    refine fr_put C w fp_X5_45 0 rfl rfl rfl rfl (ws' := [(ar, .inr (5, [.ref ard, .int 0, .int 0, .int xwi, .int xnu])), (ard, .inl (cI, 16, .inl y2.2))]) rfl dX5_start_28 (fun H locs w => ?_)
    refine lv_aload_n hx hb dX5_start_31 rfl (lv_at hl 0 rfl) ?_
    refine lv_iconst (v := 0) hx hb dX5_start_32 (by decide) ?_
    refine fr_put C w fp_X5_48 0 rfl rfl rfl rfl (ws' := [(ar, .inr (5, [.ref ard, .int 0, .int 0, .int 0, .int xnu])), (ard, .inl (cI, 16, .inl y2.2))]) rfl dX5_start_33 (fun H locs w => ?_)
    refine lv_aload_n hx hb dX5_start_36 rfl (lv_at hl 0 rfl) ?_
    refine lv_iconst (v := -1) hx hb dX5_start_37 (by decide) ?_
    refine fr_put C w fp_X5_32 0 rfl rfl rfl rfl (ws' := [(ar, .inr (5, [.ref ard, .int 0, .int 0, .int 0, .int (-1)])), (ard, .inl (cI, 16, .inl y2.2))]) rfl dX5_start_38 (fun H locs w => ?_)
    subst hr hQ
    exact fr_vret C hret hlk w rfl dX5_start_41
  have LP2 : ∀ (n2 : Nat) (k2 : Nat) (i1 : Int32) (w2 : Nat → Int32), i1 = nI k2 → k2 ≤ 16 → 16 < k2 + n2 → L_X5_start_2 n2 i1 w2 = y2 → ∀ (H : Heap) (locs : List Loc), Wd D A s.heap H locs [(ar, .inr (5, [.ref ard, .int xso, .int xtr, .int xwi, .int xnu])), (ard, .inl (cI, 16, .inl w2))] → ∀ (ls : Array Slot), lv_has ls 2 [(0, .ref ar), (1, .int i1)] → W p l e (rl 0) s m args below meth c H locs 0 0 Q (F0 m 2 ls []) := by
    clear hr
    intro n2
    induction n2 with
    | zero => intro k2 i1 w2 hk2 hkN2 hn2; exact absurd hn2 (by omega)
    | succ n2 ih2 =>
      intro k2 i1 w2 hk2 hkN2 hn2 hr H locs w ls hl
      have hr : (if 16 ≤ i1 then (i1, w2) else L_X5_start_2  n2 (i1 + 1) (upd w2 (Int32.toNatClampNeg i1) 0)) = y2 := hr
      refine lv_iload_n hx hb dX5_start_2 rfl (lv_at hl 1 rfl) ?_
      refine lv_bipush (v := 16) hx hb dX5_start_3 (by decide) ?_
      refine lv_icmp_ge (tgt := 21) hx hb dX5_start_5 (by decide) (fun c5_3 => ?_) (fun c5_3 => ?_)
      · have hr := (if_pos c5_3).symm.trans hr
        subst hr
        exact X2 H locs w ls (lv_sub hl [0, 1] rfl)
      · have hr := (if_neg c5_3).symm.trans hr
        have hkl2 := kl_of hk2 hkN2 (N := 16) (by decide) (by omega) c5_3
        refine lv_aload_n hx hb dX5_start_8 rfl (lv_at hl 0 rfl) ?_
        refine fr_get C w fg_X5_9 0 rfl rfl dX5_start_9 ?_
        refine lv_iload_n hx hb dX5_start_12 rfl (lv_at hl 1 rfl) ?_
        refine lv_iconst (v := 0) hx hb dX5_start_13 (by decide) ?_
        refine fr_iast C w 1 rfl (vi_ctr hk2 hkl2 (by omega) (by decide)) (ws' := [(ar, .inr (5, [.ref ard, .int xso, .int xtr, .int xwi, .int xnu])), (ard, .inl (cI, 16, .inl (upd w2 (Int32.toNatClampNeg i1) 0)))]) rfl dX5_start_14 (fun H locs w => ?_)
        refine lv_iinc (v := i1 + 1) (lv' := [(1, .int (i1 + 1)), (0, .ref ar)]) hx hb dX5_start_15 hl (k := 1) rfl rfl (by decide) rfl (fun ls hl => ?_)
        refine lv_goto (tgt := 2) hx hb dX5_start_18 (by decide) ?_
        exact ih2 (k2 + 1) (i1 + 1) (upd w2 (Int32.toNatClampNeg i1) 0) (by rw [hk2]; exact nI_1 k2) (by omega) (by omega) hr H locs w ls (lv_sub hl [1, 0] rfl)
  exact LP2 17 0 0 xdr (by decide) (by omega) (by omega) hy2.symm H locs w ls (lv_sub hl [1, 0] rfl)
def f_X5_keepNumber (xso : Int32) (xtr : Int32) (xnu : Int32) (xdr : Nat → Int32) : Int32 × (Nat → Int32) := ((fun (v3 : Nat → Int32) => ((-1), v3)) (if ((xso * 4) + xtr) < 0 then xdr else (if 16 ≤ ((xso * 4) + xtr) then xdr else upd xdr (Int32.toNatClampNeg ((xso * 4) + xtr)) xnu)))
set_option maxRecDepth 100000 in
set_option maxHeartbeats 4000000 in
theorem c_X5_keepNumber (l : Launch) (D : va_G) (cI cJ : ClassId) (ar ard : Nat) (xso : Int32) (xtr : Int32) (xwi : Int32) (xnu : Int32) (xdr : Nat → Int32)  : CV l yX5_keepNumber cX5_keepNumber 2 0 D cI cJ [.ref ar] [(ar, .inr (5, [.ref ard, .int xso, .int xtr, .int xwi, .int xnu])), (ard, .inl (cI, 16, .inl xdr))] [(ar, .inr (5, [.ref ard, .int xso, .int xtr, .int xwi, .int ((f_X5_keepNumber xso xtr xnu xdr).1)])), (ard, .inl (cI, 16, .inl ((f_X5_keepNumber xso xtr xnu xdr).2)))] := by
  generalize hr : f_X5_keepNumber xso xtr xnu xdr = r
  refine fr_entryV (by decide) rfl ?_
  intro p e s m args below meth c A Q H locs hQ C hret hlk w ls hl
  have hx := C.1
  have hb := C.2.1
  have hl : lv_has ls 2 [(0, .ref ar)] := hl
  have hr : ((fun (v3 : Nat → Int32) => ((-1), v3)) (if ((xso * 4) + xtr) < 0 then xdr else (if 16 ≤ ((xso * 4) + xtr) then xdr else upd xdr (Int32.toNatClampNeg ((xso * 4) + xtr)) xnu))) = r := hr
  refine lv_aload_n hx hb dX5_keepNumber_0 rfl (lv_at hl 0 rfl) ?_
  refine fr_get C w fg_X5_42 0 rfl rfl dX5_keepNumber_1 ?_
  refine lv_iconst (v := 4) hx hb dX5_keepNumber_4 (by decide) ?_
  refine lv_imul hx hb dX5_keepNumber_5 ?_
  refine lv_aload_n hx hb dX5_keepNumber_6 rfl (lv_at hl 0 rfl) ?_
  refine fr_get C w fg_X5_45 0 rfl rfl dX5_keepNumber_7 ?_
  refine lv_iadd hx hb dX5_keepNumber_10 ?_
  refine lv_istore_n (lv' := [(1, .int ((xso * 4) + xtr)), (0, .ref ar)]) hx hb dX5_keepNumber_11 rfl hl (by decide) rfl (fun ls hl => ?_)
  refine lv_iload_n hx hb dX5_keepNumber_12 rfl (lv_at hl 0 rfl) ?_
  have J32_4 : ∀ (v3 : Nat → Int32), v3 = (if ((xso * 4) + xtr) < 0 then xdr else (if 16 ≤ ((xso * 4) + xtr) then xdr else upd xdr (Int32.toNatClampNeg ((xso * 4) + xtr)) xnu)) → ∀ (H : Heap) (locs : List Loc), Wd D A s.heap H locs [(ar, .inr (5, [.ref ard, .int xso, .int xtr, .int xwi, .int xnu])), (ard, .inl (cI, 16, .inl v3))] → W p l e (rl 0) s m args below meth c H locs 0 0 Q (F0 m 32 ls []) := by
    intro v3 ev3 H locs w
    have hr : ((-1), v3) = r := by subst ev3; exact hr
    refine lv_aload_n hx hb dX5_keepNumber_32 rfl (lv_at hl 1 rfl) ?_
    refine lv_iconst (v := -1) hx hb dX5_keepNumber_33 (by decide) ?_
    refine fr_put C w fp_X5_32 0 rfl rfl rfl rfl (ws' := [(ar, .inr (5, [.ref ard, .int xso, .int xtr, .int xwi, .int (-1)])), (ard, .inl (cI, 16, .inl v3))]) rfl dX5_keepNumber_34 (fun H locs w => ?_)
    subst hr hQ
    exact fr_vret C hret hlk w rfl dX5_keepNumber_37
  refine lv_if_lt (tgt := 32) hx hb dX5_keepNumber_13 (by decide) (fun c13_1 => ?_) (fun c13_1 => ?_)
  · exact J32_4 xdr (by rw [if_pos c13_1]) _ _ w
  · refine lv_iload_n hx hb dX5_keepNumber_16 rfl (lv_at hl 0 rfl) ?_
    refine lv_bipush (v := 16) hx hb dX5_keepNumber_17 (by decide) ?_
    refine lv_icmp_ge (tgt := 32) hx hb dX5_keepNumber_19 (by decide) (fun c19_2 => ?_) (fun c19_2 => ?_)
    · skip
      exact J32_4 xdr (by rw [if_neg c13_1, if_pos c19_2]) _ _ w
    · refine lv_aload_n hx hb dX5_keepNumber_22 rfl (lv_at hl 1 rfl) ?_
      refine fr_get C w fg_X5_9 0 rfl rfl dX5_keepNumber_23 ?_
      refine lv_iload_n hx hb dX5_keepNumber_26 rfl (lv_at hl 0 rfl) ?_
      refine lv_aload_n hx hb dX5_keepNumber_27 rfl (lv_at hl 1 rfl) ?_
      refine fr_get C w fg_X5_32 0 rfl rfl dX5_keepNumber_28 ?_
      refine fr_iast C w 1 rfl (vi_guard (by assumption) (by assumption) (by decide)) (ws' := [(ar, .inr (5, [.ref ard, .int xso, .int xtr, .int xwi, .int xnu])), (ard, .inl (cI, 16, .inl (upd xdr (Int32.toNatClampNeg ((xso * 4) + xtr)) xnu)))]) rfl dX5_keepNumber_31 (fun H locs w => ?_)
      exact J32_4 (upd xdr (Int32.toNatClampNeg ((xso * 4) + xtr)) xnu) (by rw [if_neg c13_1, if_neg c19_2]) _ _ w
def f_X5_isLastTracer (xso : Int32) (xtr : Int32) (xwi : Int32) : Int32 := (if xso = 0 then 1 else (if (xtr + 1) = xwi then 1 else 0))
set_option maxRecDepth 100000 in
set_option maxHeartbeats 4000000 in
theorem c_X5_isLastTracer (l : Launch) (D : va_G) (cI cJ : ClassId) (ar ard : Nat) (xso : Int32) (xtr : Int32) (xwi : Int32) (xnu : Int32) (xdr : Nat → Int32)  : CI l yX5_isLastTracer cX5_isLastTracer 1 .boolean 0 D cI cJ [.ref ar] [(ar, .inr (5, [.ref ard, .int xso, .int xtr, .int xwi, .int xnu])), (ard, .inl (cI, 16, .inl xdr))] [(ar, .inr (5, [.ref ard, .int xso, .int xtr, .int xwi, .int xnu])), (ard, .inl (cI, 16, .inl xdr))] (f_X5_isLastTracer xso xtr xwi) := by
  generalize hr : f_X5_isLastTracer xso xtr xwi = r
  refine fr_entryI (by decide) rfl ?_
  intro p e s m args below meth c A Q H locs hQ C hret hlk w ls hl
  have hx := C.1
  have hb := C.2.1
  have hl : lv_has ls 1 [(0, .ref ar)] := hl
  have hr : (if xso = 0 then 1 else (if (xtr + 1) = xwi then 1 else 0)) = r := hr
  refine lv_aload_n hx hb dX5_isLastTracer_0 rfl (lv_at hl 0 rfl) ?_
  refine fr_get C w fg_X5_42 0 rfl rfl dX5_isLastTracer_1 ?_
  refine lv_if_eq (tgt := 20) hx hb dX5_isLastTracer_4 (by decide) (fun c4_1 => ?_) (fun c4_1 => ?_)
  · have hr := (if_pos c4_1).symm.trans hr
    refine lv_iconst (v := 1) hx hb dX5_isLastTracer_20 (by decide) ?_
    refine lv_goto (tgt := 25) hx hb dX5_isLastTracer_21 (by decide) ?_
    subst hr hQ
    exact fr_iret (W0 := []) C hret hlk w rfl rfl rfl dX5_isLastTracer_25
  · have hr := (if_neg c4_1).symm.trans hr
    refine lv_aload_n hx hb dX5_isLastTracer_7 rfl (lv_at hl 0 rfl) ?_
    refine fr_get C w fg_X5_45 0 rfl rfl dX5_isLastTracer_8 ?_
    refine lv_iconst (v := 1) hx hb dX5_isLastTracer_11 (by decide) ?_
    refine lv_iadd hx hb dX5_isLastTracer_12 ?_
    refine lv_aload_n hx hb dX5_isLastTracer_13 rfl (lv_at hl 0 rfl) ?_
    refine fr_get C w fg_X5_48 0 rfl rfl dX5_isLastTracer_14 ?_
    refine lv_icmp_ne (tgt := 24) hx hb dX5_isLastTracer_17 (by decide) (fun c17_2 => ?_) (fun c17_2 => ?_)
    · have hr := (if_neg c17_2).symm.trans hr
      refine lv_iconst (v := 0) hx hb dX5_isLastTracer_24 (by decide) ?_
      subst hr hQ
      exact fr_iret (W0 := []) C hret hlk w rfl rfl rfl dX5_isLastTracer_25
    · have hr := (if_pos c17_2).symm.trans hr
      refine lv_iconst (v := 1) hx hb dX5_isLastTracer_20 (by decide) ?_
      refine lv_goto (tgt := 25) hx hb dX5_isLastTracer_21 (by decide) ?_
      subst hr hQ
      exact fr_iret (W0 := []) C hret hlk w rfl rfl rfl dX5_isLastTracer_25
theorem b_X5_isLastTracer (xso : Int32) (xtr : Int32) (xwi : Int32) : (f_X5_isLastTracer xso xtr xwi) = 0 ∨ (f_X5_isLastTracer xso xtr xwi) = 1 := by
  unfold f_X5_isLastTracer
  try dsimp only
  repeat (first | exact Or.inl rfl | exact Or.inr rfl | split)
def f_X5_takesFigure (xnu : Int32) (q1 : Int32) : Int32 × Int32 := (if xnu = (-1) then (1, q1) else (if xnu = 0 then (0, xnu) else (if ((xnu * 10) + q1) ≤ 20 then (1, (xnu * 10) + q1) else (0, xnu))))
set_option maxRecDepth 100000 in
set_option maxHeartbeats 4000000 in
theorem c_X5_takesFigure (l : Launch) (D : va_G) (cI cJ : ClassId) (ar ard : Nat) (xso : Int32) (xtr : Int32) (xwi : Int32) (xnu : Int32) (xdr : Nat → Int32) (q1 : Int32) : CI l yX5_takesFigure cX5_takesFigure 3 .boolean 0 D cI cJ [.ref ar, .int q1] [(ar, .inr (5, [.ref ard, .int xso, .int xtr, .int xwi, .int xnu])), (ard, .inl (cI, 16, .inl xdr))] [(ar, .inr (5, [.ref ard, .int xso, .int xtr, .int xwi, .int ((f_X5_takesFigure xnu q1).2)])), (ard, .inl (cI, 16, .inl xdr))] ((f_X5_takesFigure xnu q1).1) := by
  generalize hr : f_X5_takesFigure xnu q1 = r
  refine fr_entryI (by decide) rfl ?_
  intro p e s m args below meth c A Q H locs hQ C hret hlk w ls hl
  have hx := C.1
  have hb := C.2.1
  have hl : lv_has ls 3 [(0, .ref ar), (1, .int q1)] := hl
  have hr : (if xnu = (-1) then (1, q1) else (if xnu = 0 then (0, xnu) else (if ((xnu * 10) + q1) ≤ 20 then (1, (xnu * 10) + q1) else (0, xnu)))) = r := hr
  refine lv_aload_n hx hb dX5_takesFigure_0 rfl (lv_at hl 0 rfl) ?_
  refine fr_get C w fg_X5_32 0 rfl rfl dX5_takesFigure_1 ?_
  refine lv_iconst (v := -1) hx hb dX5_takesFigure_4 (by decide) ?_
  refine lv_icmp_ne (tgt := 15) hx hb dX5_takesFigure_5 (by decide) (fun c5_1 => ?_) (fun c5_1 => ?_)
  · have hr := (if_neg c5_1).symm.trans hr
    refine lv_aload_n hx hb dX5_takesFigure_15 rfl (lv_at hl 0 rfl) ?_
    refine fr_get C w fg_X5_32 0 rfl rfl dX5_takesFigure_16 ?_
    refine lv_bipush (v := 10) hx hb dX5_takesFigure_19 (by decide) ?_
    refine lv_imul hx hb dX5_takesFigure_21 ?_
    refine lv_iload_n hx hb dX5_takesFigure_22 rfl (lv_at hl 1 rfl) ?_
    refine lv_iadd hx hb dX5_takesFigure_23 ?_
    refine lv_istore_n (lv' := [(2, .int ((xnu * 10) + q1)), (0, .ref ar), (1, .int q1)]) hx hb dX5_takesFigure_24 rfl hl (by decide) rfl (fun ls hl => ?_)
    refine lv_aload_n hx hb dX5_takesFigure_25 rfl (lv_at hl 1 rfl) ?_
    refine fr_get C w fg_X5_32 0 rfl rfl dX5_takesFigure_26 ?_
    refine lv_if_eq (tgt := 38) hx hb dX5_takesFigure_29 (by decide) (fun c29_2 => ?_) (fun c29_2 => ?_)
    · have hr := (if_pos c29_2).symm.trans hr
      refine lv_iconst (v := 0) hx hb dX5_takesFigure_38 (by decide) ?_
      subst hr hQ
      exact fr_iret (W0 := []) C hret hlk w rfl rfl rfl dX5_takesFigure_39
    · have hr := (if_neg c29_2).symm.trans hr
      refine lv_iload_n hx hb dX5_takesFigure_32 rfl (lv_at hl 0 rfl) ?_
      refine lv_bipush (v := 20) hx hb dX5_takesFigure_33 (by decide) ?_
      refine lv_icmp_le (tgt := 40) hx hb dX5_takesFigure_35 (by decide) (fun c35_3 => ?_) (fun c35_3 => ?_)
      · have hr := (if_pos c35_3).symm.trans hr
        refine lv_aload_n hx hb dX5_takesFigure_40 rfl (lv_at hl 1 rfl) ?_
        refine lv_iload_n hx hb dX5_takesFigure_41 rfl (lv_at hl 0 rfl) ?_
        refine fr_put C w fp_X5_32 0 rfl rfl rfl rfl (ws' := [(ar, .inr (5, [.ref ard, .int xso, .int xtr, .int xwi, .int ((xnu * 10) + q1)])), (ard, .inl (cI, 16, .inl xdr))]) rfl dX5_takesFigure_42 (fun H locs w => ?_)
        refine lv_iconst (v := 1) hx hb dX5_takesFigure_45 (by decide) ?_
        subst hr hQ
        exact fr_iret (W0 := []) C hret hlk w rfl rfl rfl dX5_takesFigure_46
      · have hr := (if_neg c35_3).symm.trans hr
        refine lv_iconst (v := 0) hx hb dX5_takesFigure_38 (by decide) ?_
        subst hr hQ
        exact fr_iret (W0 := []) C hret hlk w rfl rfl rfl dX5_takesFigure_39
  · have hr := (if_pos c5_1).symm.trans hr
    refine lv_aload_n hx hb dX5_takesFigure_8 rfl (lv_at hl 0 rfl) ?_
    refine lv_iload_n hx hb dX5_takesFigure_9 rfl (lv_at hl 1 rfl) ?_
    refine fr_put C w fp_X5_32 0 rfl rfl rfl rfl (ws' := [(ar, .inr (5, [.ref ard, .int xso, .int xtr, .int xwi, .int q1])), (ard, .inl (cI, 16, .inl xdr))]) rfl dX5_takesFigure_10 (fun H locs w => ?_)
    refine lv_iconst (v := 1) hx hb dX5_takesFigure_13 (by decide) ?_
    subst hr hQ
    exact fr_iret (W0 := []) C hret hlk w rfl rfl rfl dX5_takesFigure_14
theorem b_X5_takesFigure (xnu : Int32) (q1 : Int32) : (f_X5_takesFigure xnu q1).1 = 0 ∨ (f_X5_takesFigure xnu q1).1 = 1 := by
  unfold f_X5_takesFigure
  try dsimp only
  repeat (first | exact Or.inl rfl | exact Or.inr rfl | split)
def f_X5_takesComma (xso : Int32) (xtr : Int32) (xwi : Int32) (xnu : Int32) (xdr : Nat → Int32) : Int32 × Int32 × Int32 × (Nat → Int32) := ((fun (v2 : Int32) => (if xnu = (-1) then (0, xtr, xnu, xdr) else (if (xtr + 1) < v2 then ((fun (z37_5 : Int32 × (Nat → Int32)) => (1, xtr + 1, z37_5.1, z37_5.2)) (f_X5_keepNumber xso xtr xnu xdr)) else (0, xtr, xnu, xdr)))) (if xso = 0 then 4 else xwi))
set_option maxRecDepth 100000 in
set_option maxHeartbeats 4000000 in
theorem c_X5_takesComma (l : Launch) (D : va_G) (cI cJ : ClassId) (ar ard : Nat) (xso : Int32) (xtr : Int32) (xwi : Int32) (xnu : Int32) (xdr : Nat → Int32)  : CI l yX5_takesComma cX5_takesComma 2 .boolean 1 D cI cJ [.ref ar] [(ar, .inr (5, [.ref ard, .int xso, .int xtr, .int xwi, .int xnu])), (ard, .inl (cI, 16, .inl xdr))] [(ar, .inr (5, [.ref ard, .int xso, .int ((f_X5_takesComma xso xtr xwi xnu xdr).2.1), .int xwi, .int ((f_X5_takesComma xso xtr xwi xnu xdr).2.2.1)])), (ard, .inl (cI, 16, .inl ((f_X5_takesComma xso xtr xwi xnu xdr).2.2.2)))] ((f_X5_takesComma xso xtr xwi xnu xdr).1) := by
  generalize hr : f_X5_takesComma xso xtr xwi xnu xdr = r
  refine fr_entryI (by decide) rfl ?_
  intro p e s m args below meth c A Q H locs hQ C hret hlk w ls hl
  have hx := C.1
  have hb := C.2.1
  have hl : lv_has ls 2 [(0, .ref ar)] := hl
  have hr : ((fun (v2 : Int32) => (if xnu = (-1) then (0, xtr, xnu, xdr) else (if (xtr + 1) < v2 then ((fun (z37_5 : Int32 × (Nat → Int32)) => (1, xtr + 1, z37_5.1, z37_5.2)) (f_X5_keepNumber xso xtr xnu xdr)) else (0, xtr, xnu, xdr)))) (if xso = 0 then 4 else xwi)) = r := hr
  refine lv_aload_n hx hb dX5_takesComma_0 rfl (lv_at hl 0 rfl) ?_
  refine fr_get C w fg_X5_42 0 rfl rfl dX5_takesComma_1 ?_
  have J15_6 : ∀ (v2 : Int32), v2 = (if xso = 0 then 4 else xwi) → W p l e (rl 1) s m args below meth c H locs 0 0 Q (F0 m 15 ls [.int v2]) := by
    intro v2 ev2
    have hr : (if xnu = (-1) then (0, xtr, xnu, xdr) else (if (xtr + 1) < v2 then ((fun (z37_5 : Int32 × (Nat → Int32)) => (1, xtr + 1, z37_5.1, z37_5.2)) (f_X5_keepNumber xso xtr xnu xdr)) else (0, xtr, xnu, xdr))) = r := by subst ev2; exact hr
    refine lv_istore_n (lv' := [(1, .int v2), (0, .ref ar)]) hx hb dX5_takesComma_15 rfl hl (by decide) rfl (fun ls hl => ?_)
    refine lv_aload_n hx hb dX5_takesComma_16 rfl (lv_at hl 1 rfl) ?_
    refine fr_get C w fg_X5_32 0 rfl rfl dX5_takesComma_17 ?_
    refine lv_iconst (v := -1) hx hb dX5_takesComma_20 (by decide) ?_
    refine lv_icmp_eq (tgt := 34) hx hb dX5_takesComma_21 (by decide) (fun c21_3 => ?_) (fun c21_3 => ?_)
    · have hr := (if_pos c21_3).symm.trans hr
      refine lv_iconst (v := 0) hx hb dX5_takesComma_34 (by decide) ?_
      subst hr hQ
      exact fr_iret (W0 := []) C hret hlk w rfl rfl rfl dX5_takesComma_35
    · have hr := (if_neg c21_3).symm.trans hr
      refine lv_aload_n hx hb dX5_takesComma_24 rfl (lv_at hl 1 rfl) ?_
      refine fr_get C w fg_X5_45 0 rfl rfl dX5_takesComma_25 ?_
      refine lv_iconst (v := 1) hx hb dX5_takesComma_28 (by decide) ?_
      refine lv_iadd hx hb dX5_takesComma_29 ?_
      refine lv_iload_n hx hb dX5_takesComma_30 rfl (lv_at hl 0 rfl) ?_
      refine lv_icmp_lt (tgt := 36) hx hb dX5_takesComma_31 (by decide) (fun c31_4 => ?_) (fun c31_4 => ?_)
      · have hr := (if_pos c31_4).symm.trans hr
        refine lv_aload_n hx hb dX5_takesComma_36 rfl (lv_at hl 1 rfl) ?_
        obtain ⟨z37_5, hz37_5⟩ : ∃ y, (f_X5_keepNumber xso xtr xnu xdr) = y := ⟨_, rfl⟩
        have hcz37_5 := c_X5_keepNumber l D cI cJ ar ard xso xtr xwi xnu xdr
        rw [hz37_5] at hcz37_5
        have hr : (1, xtr + 1, z37_5.1, z37_5.2) = r := by subst hz37_5; exact hr
        refine fr_callVV (As := []) (rest := []) C w kf_X5_keepNumber mw_7_14 (hcz37_5) ⟨Nat.le_of_ble_eq_true rfl, Nat.le_of_ble_eq_true rfl⟩ ⟨Nat.le_refl 0, Nat.le_refl 0⟩ [0, 1] rfl rfl rfl (ws' := [(ar, .inr (5, [.ref ard, .int xso, .int xtr, .int xwi, .int z37_5.1])), (ard, .inl (cI, 16, .inl z37_5.2))]) rfl rfl rfl rfl hl.1 rfl (Nat.le_of_ble_eq_true rfl) dX5_takesComma_37 (fun H locs w => ?_)
        refine lv_aload_n hx hb dX5_takesComma_40 rfl (lv_at hl 1 rfl) ?_
        refine lv_dup hx hb dX5_takesComma_41 rfl ?_
        refine fr_get C w fg_X5_45 0 rfl rfl dX5_takesComma_42 ?_
        refine lv_iconst (v := 1) hx hb dX5_takesComma_45 (by decide) ?_
        refine lv_iadd hx hb dX5_takesComma_46 ?_
        refine fr_put C w fp_X5_45 0 rfl rfl rfl rfl (ws' := [(ar, .inr (5, [.ref ard, .int xso, .int (xtr + 1), .int xwi, .int z37_5.1])), (ard, .inl (cI, 16, .inl z37_5.2))]) rfl dX5_takesComma_47 (fun H locs w => ?_)
        refine lv_iconst (v := 1) hx hb dX5_takesComma_50 (by decide) ?_
        subst hr hQ
        exact fr_iret (W0 := []) C hret hlk w rfl rfl rfl dX5_takesComma_51
      · have hr := (if_neg c31_4).symm.trans hr
        refine lv_iconst (v := 0) hx hb dX5_takesComma_34 (by decide) ?_
        subst hr hQ
        exact fr_iret (W0 := []) C hret hlk w rfl rfl rfl dX5_takesComma_35
  refine lv_if_ne (tgt := 11) hx hb dX5_takesComma_4 (by decide) (fun c4_1 => ?_) (fun c4_1 => ?_)
  · refine lv_aload_n hx hb dX5_takesComma_11 rfl (lv_at hl 0 rfl) ?_
    refine fr_get C w fg_X5_48 0 rfl rfl dX5_takesComma_12 ?_
    exact J15_6 xwi (by rw [if_neg c4_1])
  · refine lv_iconst (v := 4) hx hb dX5_takesComma_7 (by decide) ?_
    refine lv_goto (tgt := 15) hx hb dX5_takesComma_8 (by decide) ?_
    exact J15_6 4 (by rw [if_pos c4_1])
theorem b_X5_takesComma (xso : Int32) (xtr : Int32) (xwi : Int32) (xnu : Int32) (xdr : Nat → Int32) : (f_X5_takesComma xso xtr xwi xnu xdr).1 = 0 ∨ (f_X5_takesComma xso xtr xwi xnu xdr).1 = 1 := by
  unfold f_X5_takesComma
  try dsimp only
  repeat (first | exact Or.inl rfl | exact Or.inr rfl | split)
def f_X5_takesSemicolon (xso : Int32) (xtr : Int32) (xwi : Int32) (xnu : Int32) (xdr : Nat → Int32) : Int32 × Int32 × Int32 × Int32 × Int32 × (Nat → Int32) := (if xnu = (-1) then (0, xso, xtr, xwi, xnu, xdr) else (if (f_X5_isLastTracer xso xtr xwi) = 0 then (0, xso, xtr, xwi, xnu, xdr) else (if (xso + 1) < 4 then ((fun (z28_4 : Int32 × (Nat → Int32)) => (1, xso + 1, 0, xtr + 1, z28_4.1, z28_4.2)) (f_X5_keepNumber xso xtr xnu xdr)) else (0, xso, xtr, xwi, xnu, xdr))))
set_option maxRecDepth 100000 in
set_option maxHeartbeats 4000000 in
theorem c_X5_takesSemicolon (l : Launch) (D : va_G) (cI cJ : ClassId) (ar ard : Nat) (xso : Int32) (xtr : Int32) (xwi : Int32) (xnu : Int32) (xdr : Nat → Int32)  : CI l yX5_takesSemicolon cX5_takesSemicolon 1 .boolean 1 D cI cJ [.ref ar] [(ar, .inr (5, [.ref ard, .int xso, .int xtr, .int xwi, .int xnu])), (ard, .inl (cI, 16, .inl xdr))] [(ar, .inr (5, [.ref ard, .int ((f_X5_takesSemicolon xso xtr xwi xnu xdr).2.1), .int ((f_X5_takesSemicolon xso xtr xwi xnu xdr).2.2.1), .int ((f_X5_takesSemicolon xso xtr xwi xnu xdr).2.2.2.1), .int ((f_X5_takesSemicolon xso xtr xwi xnu xdr).2.2.2.2.1)])), (ard, .inl (cI, 16, .inl ((f_X5_takesSemicolon xso xtr xwi xnu xdr).2.2.2.2.2)))] ((f_X5_takesSemicolon xso xtr xwi xnu xdr).1) := by
  generalize hr : f_X5_takesSemicolon xso xtr xwi xnu xdr = r
  refine fr_entryI (by decide) rfl ?_
  intro p e s m args below meth c A Q H locs hQ C hret hlk w ls hl
  have hx := C.1
  have hb := C.2.1
  have hl : lv_has ls 1 [(0, .ref ar)] := hl
  have hr : (if xnu = (-1) then (0, xso, xtr, xwi, xnu, xdr) else (if (f_X5_isLastTracer xso xtr xwi) = 0 then (0, xso, xtr, xwi, xnu, xdr) else (if (xso + 1) < 4 then ((fun (z28_4 : Int32 × (Nat → Int32)) => (1, xso + 1, 0, xtr + 1, z28_4.1, z28_4.2)) (f_X5_keepNumber xso xtr xnu xdr)) else (0, xso, xtr, xwi, xnu, xdr)))) = r := hr
  refine lv_aload_n hx hb dX5_takesSemicolon_0 rfl (lv_at hl 0 rfl) ?_
  refine fr_get C w fg_X5_32 0 rfl rfl dX5_takesSemicolon_1 ?_
  refine lv_iconst (v := -1) hx hb dX5_takesSemicolon_4 (by decide) ?_
  refine lv_icmp_eq (tgt := 25) hx hb dX5_takesSemicolon_5 (by decide) (fun c5_1 => ?_) (fun c5_1 => ?_)
  · have hr := (if_pos c5_1).symm.trans hr
    refine lv_iconst (v := 0) hx hb dX5_takesSemicolon_25 (by decide) ?_
    subst hr hQ
    exact fr_iret (W0 := []) C hret hlk w rfl rfl rfl dX5_takesSemicolon_26
  · have hr := (if_neg c5_1).symm.trans hr
    refine lv_aload_n hx hb dX5_takesSemicolon_8 rfl (lv_at hl 0 rfl) ?_
    refine fr_callIV (As := []) (rest := []) C w kf_X5_isLastTracer mw_7_22 (c_X5_isLastTracer l D cI cJ ar ard xso xtr xwi xnu xdr) ⟨Nat.le_of_ble_eq_true rfl, Nat.le_of_ble_eq_true rfl⟩ ⟨Nat.le_refl 0, Nat.le_refl 0⟩ [0, 1] rfl rfl rfl (ws' := [(ar, .inr (5, [.ref ard, .int xso, .int xtr, .int xwi, .int xnu])), (ard, .inl (cI, 16, .inl xdr))]) rfl rfl rfl rfl hl.1 rfl (Nat.le_of_ble_eq_true rfl) dX5_takesSemicolon_9 (fun H locs w => ?_)
    refine lv_if_eq (tgt := 25) hx hb dX5_takesSemicolon_12 (by decide) (fun c12_2 => ?_) (fun c12_2 => ?_)
    · have hr := (if_pos c12_2).symm.trans hr
      refine lv_iconst (v := 0) hx hb dX5_takesSemicolon_25 (by decide) ?_
      subst hr hQ
      exact fr_iret (W0 := []) C hret hlk w rfl rfl rfl dX5_takesSemicolon_26
    · have hr := (if_neg c12_2).symm.trans hr
      refine lv_aload_n hx hb dX5_takesSemicolon_15 rfl (lv_at hl 0 rfl) ?_
      refine fr_get C w fg_X5_42 0 rfl rfl dX5_takesSemicolon_16 ?_
      refine lv_iconst (v := 1) hx hb dX5_takesSemicolon_19 (by decide) ?_
      refine lv_iadd hx hb dX5_takesSemicolon_20 ?_
      refine lv_iconst (v := 4) hx hb dX5_takesSemicolon_21 (by decide) ?_
      refine lv_icmp_lt (tgt := 27) hx hb dX5_takesSemicolon_22 (by decide) (fun c22_3 => ?_) (fun c22_3 => ?_)
      · have hr := (if_pos c22_3).symm.trans hr
        refine lv_aload_n hx hb dX5_takesSemicolon_27 rfl (lv_at hl 0 rfl) ?_
        obtain ⟨z28_4, hz28_4⟩ : ∃ y, (f_X5_keepNumber xso xtr xnu xdr) = y := ⟨_, rfl⟩
        have hcz28_4 := c_X5_keepNumber l D cI cJ ar ard xso xtr xwi xnu xdr
        rw [hz28_4] at hcz28_4
        have hr : (1, xso + 1, 0, xtr + 1, z28_4.1, z28_4.2) = r := by subst hz28_4; exact hr
        refine fr_callVV (As := []) (rest := []) C w kf_X5_keepNumber mw_7_14 (hcz28_4) ⟨Nat.le_of_ble_eq_true rfl, Nat.le_of_ble_eq_true rfl⟩ ⟨Nat.le_refl 0, Nat.le_refl 0⟩ [0, 1] rfl rfl rfl (ws' := [(ar, .inr (5, [.ref ard, .int xso, .int xtr, .int xwi, .int z28_4.1])), (ard, .inl (cI, 16, .inl z28_4.2))]) rfl rfl rfl rfl hl.1 rfl (Nat.le_of_ble_eq_true rfl) dX5_takesSemicolon_28 (fun H locs w => ?_)
        refine lv_aload_n hx hb dX5_takesSemicolon_31 rfl (lv_at hl 0 rfl) ?_
        refine lv_aload_n hx hb dX5_takesSemicolon_32 rfl (lv_at hl 0 rfl) ?_
        refine fr_get C w fg_X5_45 0 rfl rfl dX5_takesSemicolon_33 ?_
        refine lv_iconst (v := 1) hx hb dX5_takesSemicolon_36 (by decide) ?_
        refine lv_iadd hx hb dX5_takesSemicolon_37 ?_
        refine fr_put C w fp_X5_48 0 rfl rfl rfl rfl (ws' := [(ar, .inr (5, [.ref ard, .int xso, .int xtr, .int (xtr + 1), .int z28_4.1])), (ard, .inl (cI, 16, .inl z28_4.2))]) rfl dX5_takesSemicolon_38 (fun H locs w => ?_)
        refine lv_aload_n hx hb dX5_takesSemicolon_41 rfl (lv_at hl 0 rfl) ?_
        refine lv_dup hx hb dX5_takesSemicolon_42 rfl ?_
        refine fr_get C w fg_X5_42 0 rfl rfl dX5_takesSemicolon_43 ?_
        refine lv_iconst (v := 1) hx hb dX5_takesSemicolon_46 (by decide) ?_
        refine lv_iadd hx hb dX5_takesSemicolon_47 ?_
        refine fr_put C w fp_X5_42 0 rfl rfl rfl rfl (ws' := [(ar, .inr (5, [.ref ard, .int (xso + 1), .int xtr, .int (xtr + 1), .int z28_4.1])), (ard, .inl (cI, 16, .inl z28_4.2))]) rfl dX5_takesSemicolon_48 (fun H locs w => ?_)
        refine lv_aload_n hx hb dX5_takesSemicolon_51 rfl (lv_at hl 0 rfl) ?_
        refine lv_iconst (v := 0) hx hb dX5_takesSemicolon_52 (by decide) ?_
        refine fr_put C w fp_X5_45 0 rfl rfl rfl rfl (ws' := [(ar, .inr (5, [.ref ard, .int (xso + 1), .int 0, .int (xtr + 1), .int z28_4.1])), (ard, .inl (cI, 16, .inl z28_4.2))]) rfl dX5_takesSemicolon_53 (fun H locs w => ?_)
        refine lv_iconst (v := 1) hx hb dX5_takesSemicolon_56 (by decide) ?_
        subst hr hQ
        exact fr_iret (W0 := []) C hret hlk w rfl rfl rfl dX5_takesSemicolon_57
      · have hr := (if_neg c22_3).symm.trans hr
        refine lv_iconst (v := 0) hx hb dX5_takesSemicolon_25 (by decide) ?_
        subst hr hQ
        exact fr_iret (W0 := []) C hret hlk w rfl rfl rfl dX5_takesSemicolon_26
theorem b_X5_takesSemicolon (xso : Int32) (xtr : Int32) (xwi : Int32) (xnu : Int32) (xdr : Nat → Int32) : (f_X5_takesSemicolon xso xtr xwi xnu xdr).1 = 0 ∨ (f_X5_takesSemicolon xso xtr xwi xnu xdr).1 = 1 := by
  unfold f_X5_takesSemicolon
  try dsimp only
  repeat (first | exact Or.inl rfl | exact Or.inr rfl | exact b_X5_isLastTracer _ _ _ | split)
def f_X5_takes (xso : Int32) (xtr : Int32) (xwi : Int32) (xnu : Int32) (xdr : Nat → Int32) (q1 : Int32) : Int32 × Int32 × Int32 × Int32 × Int32 × (Nat → Int32) := (if q1 = 44 then ((fun (z29_1 : Int32 × Int32 × Int32 × (Nat → Int32)) => (z29_1.1, xso, z29_1.2.1, xwi, z29_1.2.2.1, z29_1.2.2.2)) (f_X5_takesComma xso xtr xwi xnu xdr)) else (if q1 = 59 then ((fun (z34_2 : Int32 × Int32 × Int32 × Int32 × Int32 × (Nat → Int32)) => (z34_2.1, z34_2.2.1, z34_2.2.2.1, z34_2.2.2.2.1, z34_2.2.2.2.2.1, z34_2.2.2.2.2.2)) (f_X5_takesSemicolon xso xtr xwi xnu xdr)) else (if q1 < 48 then (0, xso, xtr, xwi, xnu, xdr) else (if 57 < q1 then (0, xso, xtr, xwi, xnu, xdr) else ((fun (z55_5 : Int32 × Int32) => (if z55_5.1 = 0 then (0, xso, xtr, xwi, z55_5.2, xdr) else (1, xso, xtr, xwi, z55_5.2, xdr))) (f_X5_takesFigure xnu (q1 - 48)))))))
set_option maxRecDepth 100000 in
set_option maxHeartbeats 4000000 in
theorem c_X5_takes (l : Launch) (D : va_G) (cI cJ : ClassId) (ar ard : Nat) (xso : Int32) (xtr : Int32) (xwi : Int32) (xnu : Int32) (xdr : Nat → Int32) (q1 : Int32) : CI l yX5_takes cX5_takes 2 .boolean 2 D cI cJ [.ref ar, .int q1] [(ar, .inr (5, [.ref ard, .int xso, .int xtr, .int xwi, .int xnu])), (ard, .inl (cI, 16, .inl xdr))] [(ar, .inr (5, [.ref ard, .int ((f_X5_takes xso xtr xwi xnu xdr q1).2.1), .int ((f_X5_takes xso xtr xwi xnu xdr q1).2.2.1), .int ((f_X5_takes xso xtr xwi xnu xdr q1).2.2.2.1), .int ((f_X5_takes xso xtr xwi xnu xdr q1).2.2.2.2.1)])), (ard, .inl (cI, 16, .inl ((f_X5_takes xso xtr xwi xnu xdr q1).2.2.2.2.2)))] ((f_X5_takes xso xtr xwi xnu xdr q1).1) := by
  generalize hr : f_X5_takes xso xtr xwi xnu xdr q1 = r
  refine fr_entryI (by decide) rfl ?_
  intro p e s m args below meth c A Q H locs hQ C hret hlk w ls hl
  have hx := C.1
  have hb := C.2.1
  have hl : lv_has ls 2 [(0, .ref ar), (1, .int q1)] := hl
  have hr : (if q1 = 44 then ((fun (z29_1 : Int32 × Int32 × Int32 × (Nat → Int32)) => (z29_1.1, xso, z29_1.2.1, xwi, z29_1.2.2.1, z29_1.2.2.2)) (f_X5_takesComma xso xtr xwi xnu xdr)) else (if q1 = 59 then ((fun (z34_2 : Int32 × Int32 × Int32 × Int32 × Int32 × (Nat → Int32)) => (z34_2.1, z34_2.2.1, z34_2.2.2.1, z34_2.2.2.2.1, z34_2.2.2.2.2.1, z34_2.2.2.2.2.2)) (f_X5_takesSemicolon xso xtr xwi xnu xdr)) else (if q1 < 48 then (0, xso, xtr, xwi, xnu, xdr) else (if 57 < q1 then (0, xso, xtr, xwi, xnu, xdr) else ((fun (z55_5 : Int32 × Int32) => (if z55_5.1 = 0 then (0, xso, xtr, xwi, z55_5.2, xdr) else (1, xso, xtr, xwi, z55_5.2, xdr))) (f_X5_takesFigure xnu (q1 - 48))))))) = r := hr
  refine lv_iload_n hx hb dX5_takes_0 rfl (lv_at hl 1 rfl) ?_
  by_cases c1_s0 : q1 = 44
  · have hr := (if_pos c1_s0).symm.trans hr
    refine lv_lookup (tgt := 28) (off := 27) hx hb dX5_takes_1 (by decide) (by rw [c1_s0]; decide) (by decide) ?_
    refine lv_aload_n hx hb dX5_takes_28 rfl (lv_at hl 0 rfl) ?_
    obtain ⟨z29_1, hz29_1⟩ : ∃ y, (f_X5_takesComma xso xtr xwi xnu xdr) = y := ⟨_, rfl⟩
    have hcz29_1 := c_X5_takesComma l D cI cJ ar ard xso xtr xwi xnu xdr
    rw [hz29_1] at hcz29_1
    have hr : (z29_1.1, xso, z29_1.2.1, xwi, z29_1.2.2.1, z29_1.2.2.2) = r := by subst hz29_1; exact hr
    refine fr_callIV (As := []) (rest := []) C w kf_X5_takesComma mw_7_10 (hcz29_1) ⟨Nat.le_of_ble_eq_true rfl, Nat.le_of_ble_eq_true rfl⟩ ⟨Nat.le_refl 0, Nat.le_refl 0⟩ [0, 1] rfl rfl rfl (ws' := [(ar, .inr (5, [.ref ard, .int xso, .int z29_1.2.1, .int xwi, .int z29_1.2.2.1])), (ard, .inl (cI, 16, .inl z29_1.2.2.2))]) rfl rfl rfl rfl hl.1 rfl (Nat.le_of_ble_eq_true rfl) dX5_takes_29 (fun H locs w => ?_)
    subst hr hQ
    exact fr_iret (W0 := []) C hret hlk w (nb_of (by rw [← hz29_1]; exact b_X5_takesComma _ _ _ _ _)) rfl rfl dX5_takes_32
  · have hr := (if_neg c1_s0).symm.trans hr
    by_cases c1_s1 : q1 = 59
    · have hr := (if_pos c1_s1).symm.trans hr
      refine lv_lookup (tgt := 33) (off := 32) hx hb dX5_takes_1 (by decide) (by rw [c1_s1]; decide) (by decide) ?_
      refine lv_aload_n hx hb dX5_takes_33 rfl (lv_at hl 0 rfl) ?_
      obtain ⟨z34_2, hz34_2⟩ : ∃ y, (f_X5_takesSemicolon xso xtr xwi xnu xdr) = y := ⟨_, rfl⟩
      have hcz34_2 := c_X5_takesSemicolon l D cI cJ ar ard xso xtr xwi xnu xdr
      rw [hz34_2] at hcz34_2
      have hr : (z34_2.1, z34_2.2.1, z34_2.2.2.1, z34_2.2.2.2.1, z34_2.2.2.2.2.1, z34_2.2.2.2.2.2) = r := by subst hz34_2; exact hr
      refine fr_callIV (As := []) (rest := []) C w kf_X5_takesSemicolon mw_7_18 (hcz34_2) ⟨Nat.le_of_ble_eq_true rfl, Nat.le_of_ble_eq_true rfl⟩ ⟨Nat.le_refl 0, Nat.le_refl 0⟩ [0, 1] rfl rfl rfl (ws' := [(ar, .inr (5, [.ref ard, .int z34_2.2.1, .int z34_2.2.2.1, .int z34_2.2.2.2.1, .int z34_2.2.2.2.2.1])), (ard, .inl (cI, 16, .inl z34_2.2.2.2.2.2))]) rfl rfl rfl rfl hl.1 rfl (Nat.le_of_ble_eq_true rfl) dX5_takes_34 (fun H locs w => ?_)
      subst hr hQ
      exact fr_iret (W0 := []) C hret hlk w (nb_of (by rw [← hz34_2]; exact b_X5_takesSemicolon _ _ _ _ _)) rfl rfl dX5_takes_37
    · have hr := (if_neg c1_s1).symm.trans hr
      refine lv_lookup (tgt := 38) (off := 37) hx hb dX5_takes_1 (by decide) (sw_look_X5_takes c1_s0 c1_s1) (by decide) ?_
      refine lv_iload_n hx hb dX5_takes_38 rfl (lv_at hl 1 rfl) ?_
      refine lv_bipush (v := 48) hx hb dX5_takes_39 (by decide) ?_
      refine lv_icmp_lt (tgt := 65) hx hb dX5_takes_41 (by decide) (fun c41_3 => ?_) (fun c41_3 => ?_)
      · have hr := (if_pos c41_3).symm.trans hr
        refine lv_iconst (v := 0) hx hb dX5_takes_65 (by decide) ?_
        subst hr hQ
        exact fr_iret (W0 := []) C hret hlk w rfl rfl rfl dX5_takes_66
      · have hr := (if_neg c41_3).symm.trans hr
        refine lv_iload_n hx hb dX5_takes_44 rfl (lv_at hl 1 rfl) ?_
        refine lv_bipush (v := 57) hx hb dX5_takes_45 (by decide) ?_
        refine lv_icmp_gt (tgt := 65) hx hb dX5_takes_47 (by decide) (fun c47_4 => ?_) (fun c47_4 => ?_)
        · have hr := (if_pos c47_4).symm.trans hr
          refine lv_iconst (v := 0) hx hb dX5_takes_65 (by decide) ?_
          subst hr hQ
          exact fr_iret (W0 := []) C hret hlk w rfl rfl rfl dX5_takes_66
        · have hr := (if_neg c47_4).symm.trans hr
          refine lv_aload_n hx hb dX5_takes_50 rfl (lv_at hl 0 rfl) ?_
          refine lv_iload_n hx hb dX5_takes_51 rfl (lv_at hl 1 rfl) ?_
          refine lv_bipush (v := 48) hx hb dX5_takes_52 (by decide) ?_
          refine lv_isub hx hb dX5_takes_54 ?_
          obtain ⟨z55_5, hz55_5⟩ : ∃ y, (f_X5_takesFigure xnu (q1 - 48)) = y := ⟨_, rfl⟩
          have hcz55_5 := c_X5_takesFigure l D cI cJ ar ard xso xtr xwi xnu xdr (q1 - 48)
          rw [hz55_5] at hcz55_5
          have hr : (if z55_5.1 = 0 then (0, xso, xtr, xwi, z55_5.2, xdr) else (1, xso, xtr, xwi, z55_5.2, xdr)) = r := by subst hz55_5; exact hr
          refine fr_callIV (As := [.int (q1 - 48)]) (rest := []) C w kf_X5_takesFigure mw_8_2 (hcz55_5) ⟨Nat.le_of_ble_eq_true rfl, Nat.le_of_ble_eq_true rfl⟩ ⟨Nat.le_refl 0, Nat.le_refl 0⟩ [0, 1] rfl rfl rfl (ws' := [(ar, .inr (5, [.ref ard, .int xso, .int xtr, .int xwi, .int z55_5.2])), (ard, .inl (cI, 16, .inl xdr))]) rfl rfl rfl rfl hl.1 rfl (Nat.le_of_ble_eq_true rfl) dX5_takes_55 (fun H locs w => ?_)
          refine lv_if_eq (tgt := 65) hx hb dX5_takes_58 (by decide) (fun c58_6 => ?_) (fun c58_6 => ?_)
          · have hr := (if_pos c58_6).symm.trans hr
            refine lv_iconst (v := 0) hx hb dX5_takes_65 (by decide) ?_
            subst hr hQ
            exact fr_iret (W0 := []) C hret hlk w rfl rfl rfl dX5_takes_66
          · have hr := (if_neg c58_6).symm.trans hr
            refine lv_iconst (v := 1) hx hb dX5_takes_61 (by decide) ?_
            refine lv_goto (tgt := 66) hx hb dX5_takes_62 (by decide) ?_
            subst hr hQ
            exact fr_iret (W0 := []) C hret hlk w rfl rfl rfl dX5_takes_66
theorem b_X5_takes (xso : Int32) (xtr : Int32) (xwi : Int32) (xnu : Int32) (xdr : Nat → Int32) (q1 : Int32) : (f_X5_takes xso xtr xwi xnu xdr q1).1 = 0 ∨ (f_X5_takes xso xtr xwi xnu xdr q1).1 = 1 := by
  unfold f_X5_takes
  try dsimp only
  repeat (first | exact Or.inl rfl | exact Or.inr rfl | exact b_X5_takesComma _ _ _ _ _ | exact b_X5_takesSemicolon _ _ _ _ _ | exact b_X5_takesFigure _ _ | split)
def f_X5_finish (xso : Int32) (xtr : Int32) (xwi : Int32) (xnu : Int32) (xdr : Nat → Int32) : Int32 × Int32 × (Nat → Int32) := (if xnu = (-1) then (0, xnu, xdr) else (if (f_X5_isLastTracer xso xtr xwi) = 0 then (0, xnu, xdr) else ((fun (z18_3 : Int32 × (Nat → Int32)) => (1, z18_3.1, z18_3.2)) (f_X5_keepNumber xso xtr xnu xdr))))
set_option maxRecDepth 100000 in
set_option maxHeartbeats 4000000 in
theorem c_X5_finish (l : Launch) (D : va_G) (cI cJ : ClassId) (ar ard : Nat) (xso : Int32) (xtr : Int32) (xwi : Int32) (xnu : Int32) (xdr : Nat → Int32)  : CI l yX5_finish cX5_finish 1 .boolean 1 D cI cJ [.ref ar] [(ar, .inr (5, [.ref ard, .int xso, .int xtr, .int xwi, .int xnu])), (ard, .inl (cI, 16, .inl xdr))] [(ar, .inr (5, [.ref ard, .int xso, .int xtr, .int xwi, .int ((f_X5_finish xso xtr xwi xnu xdr).2.1)])), (ard, .inl (cI, 16, .inl ((f_X5_finish xso xtr xwi xnu xdr).2.2)))] ((f_X5_finish xso xtr xwi xnu xdr).1) := by
  generalize hr : f_X5_finish xso xtr xwi xnu xdr = r
  refine fr_entryI (by decide) rfl ?_
  intro p e s m args below meth c A Q H locs hQ C hret hlk w ls hl
  have hx := C.1
  have hb := C.2.1
  have hl : lv_has ls 1 [(0, .ref ar)] := hl
  have hr : (if xnu = (-1) then (0, xnu, xdr) else (if (f_X5_isLastTracer xso xtr xwi) = 0 then (0, xnu, xdr) else ((fun (z18_3 : Int32 × (Nat → Int32)) => (1, z18_3.1, z18_3.2)) (f_X5_keepNumber xso xtr xnu xdr)))) = r := hr
  refine lv_aload_n hx hb dX5_finish_0 rfl (lv_at hl 0 rfl) ?_
  refine fr_get C w fg_X5_32 0 rfl rfl dX5_finish_1 ?_
  refine lv_iconst (v := -1) hx hb dX5_finish_4 (by decide) ?_
  refine lv_icmp_eq (tgt := 15) hx hb dX5_finish_5 (by decide) (fun c5_1 => ?_) (fun c5_1 => ?_)
  · have hr := (if_pos c5_1).symm.trans hr
    refine lv_iconst (v := 0) hx hb dX5_finish_15 (by decide) ?_
    subst hr hQ
    exact fr_iret (W0 := []) C hret hlk w rfl rfl rfl dX5_finish_16
  · have hr := (if_neg c5_1).symm.trans hr
    refine lv_aload_n hx hb dX5_finish_8 rfl (lv_at hl 0 rfl) ?_
    refine fr_callIV (As := []) (rest := []) C w kf_X5_isLastTracer mw_7_22 (c_X5_isLastTracer l D cI cJ ar ard xso xtr xwi xnu xdr) ⟨Nat.le_of_ble_eq_true rfl, Nat.le_of_ble_eq_true rfl⟩ ⟨Nat.le_refl 0, Nat.le_refl 0⟩ [0, 1] rfl rfl rfl (ws' := [(ar, .inr (5, [.ref ard, .int xso, .int xtr, .int xwi, .int xnu])), (ard, .inl (cI, 16, .inl xdr))]) rfl rfl rfl rfl hl.1 rfl (Nat.le_of_ble_eq_true rfl) dX5_finish_9 (fun H locs w => ?_)
    refine lv_if_ne (tgt := 17) hx hb dX5_finish_12 (by decide) (fun c12_2 => ?_) (fun c12_2 => ?_)
    · have hr := (if_neg c12_2).symm.trans hr
      refine lv_aload_n hx hb dX5_finish_17 rfl (lv_at hl 0 rfl) ?_
      obtain ⟨z18_3, hz18_3⟩ : ∃ y, (f_X5_keepNumber xso xtr xnu xdr) = y := ⟨_, rfl⟩
      have hcz18_3 := c_X5_keepNumber l D cI cJ ar ard xso xtr xwi xnu xdr
      rw [hz18_3] at hcz18_3
      have hr : (1, z18_3.1, z18_3.2) = r := by subst hz18_3; exact hr
      refine fr_callVV (As := []) (rest := []) C w kf_X5_keepNumber mw_7_14 (hcz18_3) ⟨Nat.le_of_ble_eq_true rfl, Nat.le_of_ble_eq_true rfl⟩ ⟨Nat.le_refl 0, Nat.le_refl 0⟩ [0, 1] rfl rfl rfl (ws' := [(ar, .inr (5, [.ref ard, .int xso, .int xtr, .int xwi, .int z18_3.1])), (ard, .inl (cI, 16, .inl z18_3.2))]) rfl rfl rfl rfl hl.1 rfl (Nat.le_of_ble_eq_true rfl) dX5_finish_18 (fun H locs w => ?_)
      refine lv_iconst (v := 1) hx hb dX5_finish_21 (by decide) ?_
      subst hr hQ
      exact fr_iret (W0 := []) C hret hlk w rfl rfl rfl dX5_finish_22
    · have hr := (if_pos c12_2).symm.trans hr
      refine lv_iconst (v := 0) hx hb dX5_finish_15 (by decide) ?_
      subst hr hQ
      exact fr_iret (W0 := []) C hret hlk w rfl rfl rfl dX5_finish_16
theorem b_X5_finish (xso : Int32) (xtr : Int32) (xwi : Int32) (xnu : Int32) (xdr : Nat → Int32) : (f_X5_finish xso xtr xwi xnu xdr).1 = 0 ∨ (f_X5_finish xso xtr xwi xnu xdr).1 = 1 := by
  unfold f_X5_finish
  try dsimp only
  repeat (first | exact Or.inl rfl | exact Or.inr rfl | exact b_X5_isLastTracer _ _ _ | split)
def L_X5_read_6 (xpl : Int32) (xpc : Nat → Int32) : Nat → Int32 → Int32 → Int32 → Int32 → Int32 → (Nat → Int32) → Int32 × Int32 × Int32 × Int32 × Int32 × (Nat → Int32)
  | 0, _, _, _, _, _, _ => (0, 0, 0, 0, 0, fun _ => 0)
  | n6 + 1, i2, w3, w4, w5, w6, w7 => (if xpl ≤ i2 then (xpl, w3, w4, w5, w6, w7) else ((fun (z20_9 : Int32 × Int32 × Int32 × Int32 × Int32 × (Nat → Int32)) => (if z20_9.1 = 0 then (i2, z20_9.2.1, z20_9.2.2.1, z20_9.2.2.2.1, z20_9.2.2.2.2.1, z20_9.2.2.2.2.2) else L_X5_read_6 xpl xpc n6 (i2 + 1) z20_9.2.1 z20_9.2.2.1 z20_9.2.2.2.1 z20_9.2.2.2.2.1 z20_9.2.2.2.2.2)) (f_X5_takes w3 w4 w5 w6 w7 (f_X4_codeAt xpl xpc i2))))
def f_X5_read (xdr : Nat → Int32) (xpl : Int32) (xpc : Nat → Int32) : Int32 × Int32 × Int32 × Int32 × Int32 × (Nat → Int32) := ((fun (z1_1 : Int32 × Int32 × Int32 × Int32 × (Nat → Int32)) => L_X5_read_6 xpl xpc 48 0 z1_1.1 z1_1.2.1 z1_1.2.2.1 z1_1.2.2.2.1 z1_1.2.2.2.2) (f_X5_start xdr))
set_option maxRecDepth 100000 in
set_option maxHeartbeats 4000000 in
theorem c_X5_read (l : Launch) (D : va_G) (cI cJ : ClassId) (ar ard ap apc : Nat) (xso : Int32) (xtr : Int32) (xwi : Int32) (xnu : Int32) (xdr : Nat → Int32) (xpl : Int32) (xpc : Nat → Int32)  (hpl : ∃ n : Nat, n ≤ 47 ∧ xpl = nI n) : CI l yX5_read cX5_read 3 .int 3 D cI cJ [.ref ar, .ref ap] [(ar, .inr (5, [.ref ard, .int xso, .int xtr, .int xwi, .int xnu])), (ard, .inl (cI, 16, .inl xdr)), (ap, .inr (4, [.ref apc, .int xpl])), (apc, .inl (cI, 47, .inl xpc))] [(ar, .inr (5, [.ref ard, .int ((f_X5_read xdr xpl xpc).2.1), .int ((f_X5_read xdr xpl xpc).2.2.1), .int ((f_X5_read xdr xpl xpc).2.2.2.1), .int ((f_X5_read xdr xpl xpc).2.2.2.2.1)])), (ard, .inl (cI, 16, .inl ((f_X5_read xdr xpl xpc).2.2.2.2.2))), (ap, .inr (4, [.ref apc, .int xpl])), (apc, .inl (cI, 47, .inl xpc))] ((f_X5_read xdr xpl xpc).1) := by
  generalize hr : f_X5_read xdr xpl xpc = r
  obtain ⟨npl, hpl1, hpl2⟩ := hpl
  refine fr_entryI (by decide) rfl ?_
  intro p e s m args below meth c A Q H locs hQ C hret hlk w ls hl
  have hx := C.1
  have hb := C.2.1
  have hl : lv_has ls 3 [(0, .ref ar), (1, .ref ap)] := hl
  have hr : ((fun (z1_1 : Int32 × Int32 × Int32 × Int32 × (Nat → Int32)) => L_X5_read_6 xpl xpc 48 0 z1_1.1 z1_1.2.1 z1_1.2.2.1 z1_1.2.2.2.1 z1_1.2.2.2.2) (f_X5_start xdr)) = r := hr
  refine lv_aload_n hx hb dX5_read_0 rfl (lv_at hl 0 rfl) ?_
  obtain ⟨z1_1, hz1_1⟩ : ∃ y, (f_X5_start xdr) = y := ⟨_, rfl⟩
  have hcz1_1 := c_X5_start l D cI cJ ar ard xso xtr xwi xnu xdr
  rw [hz1_1] at hcz1_1
  have hr : L_X5_read_6 xpl xpc 48 0 z1_1.1 z1_1.2.1 z1_1.2.2.1 z1_1.2.2.2.1 z1_1.2.2.2.2 = r := by subst hz1_1; exact hr
  refine fr_callVV (As := []) (rest := []) C w kf_X5_start mw_6_18 (hcz1_1) ⟨Nat.le_of_ble_eq_true rfl, Nat.le_of_ble_eq_true rfl⟩ ⟨Nat.le_refl 0, Nat.le_refl 0⟩ [0, 1] rfl rfl rfl (ws' := [(ar, .inr (5, [.ref ard, .int z1_1.1, .int z1_1.2.1, .int z1_1.2.2.1, .int z1_1.2.2.2.1])), (ard, .inl (cI, 16, .inl z1_1.2.2.2.2)), (ap, .inr (4, [.ref apc, .int xpl])), (apc, .inl (cI, 47, .inl xpc))]) rfl rfl rfl rfl hl.1 rfl (Nat.le_of_ble_eq_true rfl) dX5_read_1 (fun H locs w => ?_)
  refine lv_iconst (v := 0) hx hb dX5_read_4 (by decide) ?_
  refine lv_istore_n (lv' := [(2, .int 0), (0, .ref ar), (1, .ref ap)]) hx hb dX5_read_5 rfl hl (by decide) rfl (fun ls hl => ?_)
  have LP6 : ∀ (n6 : Nat) (k6 : Nat) (i2 : Int32) (w3 : Int32) (w4 : Int32) (w5 : Int32) (w6 : Int32) (w7 : Nat → Int32), i2 = nI k6 → k6 ≤ npl → npl < k6 + n6 → L_X5_read_6 xpl xpc n6 i2 w3 w4 w5 w6 w7 = r → ∀ (H : Heap) (locs : List Loc), Wd D A s.heap H locs [(ar, .inr (5, [.ref ard, .int w3, .int w4, .int w5, .int w6])), (ard, .inl (cI, 16, .inl w7)), (ap, .inr (4, [.ref apc, .int xpl])), (apc, .inl (cI, 47, .inl xpc))] → ∀ (ls : Array Slot), lv_has ls 3 [(0, .ref ar), (1, .ref ap), (2, .int i2)] → W p l e (rl 3) s m args below meth c H locs 0 0 Q (F0 m 6 ls []) := by
    skip
    intro n6
    induction n6 with
    | zero => intro k6 i2 w3 w4 w5 w6 w7 hk6 hkN6 hn6; exact absurd hn6 (by omega)
    | succ n6 ih6 =>
      intro k6 i2 w3 w4 w5 w6 w7 hk6 hkN6 hn6 hr H locs w ls hl
      have hr : (if xpl ≤ i2 then (xpl, w3, w4, w5, w6, w7) else ((fun (z20_9 : Int32 × Int32 × Int32 × Int32 × Int32 × (Nat → Int32)) => (if z20_9.1 = 0 then (i2, z20_9.2.1, z20_9.2.2.1, z20_9.2.2.2.1, z20_9.2.2.2.2.1, z20_9.2.2.2.2.2) else L_X5_read_6 xpl xpc n6 (i2 + 1) z20_9.2.1 z20_9.2.2.1 z20_9.2.2.2.1 z20_9.2.2.2.2.1 z20_9.2.2.2.2.2)) (f_X5_takes w3 w4 w5 w6 w7 (f_X4_codeAt xpl xpc i2)))) = r := hr
      refine lv_iload_n hx hb dX5_read_6 rfl (lv_at hl 2 rfl) ?_
      refine lv_aload_n hx hb dX5_read_7 rfl (lv_at hl 1 rfl) ?_
      refine fr_get C w fg_X5_18 2 rfl rfl dX5_read_8 ?_
      refine lv_icmp_ge (tgt := 34) hx hb dX5_read_11 (by decide) (fun c11_8 => ?_) (fun c11_8 => ?_)
      · have hr := (if_pos c11_8).symm.trans hr
        refine lv_aload_n hx hb dX5_read_34 rfl (lv_at hl 1 rfl) ?_
        refine fr_get C w fg_X5_18 2 rfl rfl dX5_read_35 ?_
        subst hr hQ
        exact fr_iret (W0 := []) C hret hlk w rfl rfl rfl dX5_read_38
      · have hr := (if_neg c11_8).symm.trans hr
        have hkl6 := kl_of hk6 hkN6 (N := npl) hpl2 (by omega) c11_8
        refine lv_aload_n hx hb dX5_read_14 rfl (lv_at hl 0 rfl) ?_
        refine lv_aload_n hx hb dX5_read_15 rfl (lv_at hl 1 rfl) ?_
        refine lv_iload_n hx hb dX5_read_16 rfl (lv_at hl 2 rfl) ?_
        refine fr_callIV (As := [.int i2]) (rest := [.ref ar]) C w kf_X4_codeAt mw_7_2 (c_X4_codeAt l D cI cJ ap apc xpl xpc i2) ⟨Nat.le_of_ble_eq_true rfl, Nat.le_of_ble_eq_true rfl⟩ ⟨Nat.le_refl 0, Nat.le_refl 0⟩ [2, 3] rfl rfl rfl (ws' := [(ar, .inr (5, [.ref ard, .int w3, .int w4, .int w5, .int w6])), (ard, .inl (cI, 16, .inl w7)), (ap, .inr (4, [.ref apc, .int xpl])), (apc, .inl (cI, 47, .inl xpc))]) rfl rfl rfl rfl hl.1 rfl (Nat.le_of_ble_eq_true rfl) dX5_read_17 (fun H locs w => ?_)
        obtain ⟨z20_9, hz20_9⟩ : ∃ y, (f_X5_takes w3 w4 w5 w6 w7 (f_X4_codeAt xpl xpc i2)) = y := ⟨_, rfl⟩
        have hcz20_9 := c_X5_takes l D cI cJ ar ard w3 w4 w5 w6 w7 (f_X4_codeAt xpl xpc i2)
        rw [hz20_9] at hcz20_9
        have hr : (if z20_9.1 = 0 then (i2, z20_9.2.1, z20_9.2.2.1, z20_9.2.2.2.1, z20_9.2.2.2.2.1, z20_9.2.2.2.2.2) else L_X5_read_6 xpl xpc n6 (i2 + 1) z20_9.2.1 z20_9.2.2.1 z20_9.2.2.2.1 z20_9.2.2.2.2.1 z20_9.2.2.2.2.2) = r := by subst hz20_9; exact hr
        refine fr_callIV (As := [.int (f_X4_codeAt xpl xpc i2)]) (rest := []) C w kf_X5_takes mw_7_6 (hcz20_9) ⟨Nat.le_of_ble_eq_true rfl, Nat.le_of_ble_eq_true rfl⟩ ⟨Nat.le_refl 0, Nat.le_refl 0⟩ [0, 1] rfl rfl rfl (ws' := [(ar, .inr (5, [.ref ard, .int z20_9.2.1, .int z20_9.2.2.1, .int z20_9.2.2.2.1, .int z20_9.2.2.2.2.1])), (ard, .inl (cI, 16, .inl z20_9.2.2.2.2.2)), (ap, .inr (4, [.ref apc, .int xpl])), (apc, .inl (cI, 47, .inl xpc))]) rfl rfl rfl rfl hl.1 rfl (Nat.le_of_ble_eq_true rfl) dX5_read_20 (fun H locs w => ?_)
        refine lv_if_ne (tgt := 28) hx hb dX5_read_23 (by decide) (fun c23_10 => ?_) (fun c23_10 => ?_)
        · have hr := (if_neg c23_10).symm.trans hr
          refine lv_iinc (v := i2 + 1) (lv' := [(2, .int (i2 + 1)), (0, .ref ar), (1, .ref ap)]) hx hb dX5_read_28 hl (k := 2) rfl rfl (by decide) rfl (fun ls hl => ?_)
          refine lv_goto (tgt := 6) hx hb dX5_read_31 (by decide) ?_
          exact ih6 (k6 + 1) (i2 + 1) z20_9.2.1 z20_9.2.2.1 z20_9.2.2.2.1 z20_9.2.2.2.2.1 z20_9.2.2.2.2.2 (by rw [hk6]; exact nI_1 k6) (by omega) (by omega) hr H locs w ls (lv_sub hl [1, 2, 0] rfl)
        · have hr := (if_pos c23_10).symm.trans hr
          refine lv_iload_n hx hb dX5_read_26 rfl (lv_at hl 2 rfl) ?_
          subst hr hQ
          exact fr_iret (W0 := []) C hret hlk w rfl rfl rfl dX5_read_27
  exact LP6 48 0 0 z1_1.1 z1_1.2.1 z1_1.2.2.1 z1_1.2.2.2.1 z1_1.2.2.2.2 (by decide) (by omega) (by omega) hr H locs w ls (lv_sub hl [1, 2, 0] rfl)
