theorem mw_4_23 : Cond.constantLong RX6 44 (-1000003) ∈ wsL_law := ck_4 _ (List.mem_of_getElem? (i := 23) rfl)
theorem mw_1_15 : Cond.fieldLink RX6 12 "MudShares" "page" "LMudShares$Page;" ∈ wsL_law := ck_1 _ (List.mem_of_getElem? (i := 15) rfl)
theorem mw_5_2 : Cond.methodLink RX6 46 yX4_isFull ∈ wsL_law := ck_5 _ (List.mem_of_getElem? (i := 2) rfl)
theorem mw_5_5 : Cond.code yX4_isFull cX4_isFull 1 (some .boolean) ∈ wsL_law := ck_5 _ (List.mem_of_getElem? (i := 5) rfl)
theorem mw_5_3 : Cond.instanceMethod yX4_isFull ∈ wsL_law := ck_5 _ (List.mem_of_getElem? (i := 3) rfl)
theorem mw_5_4 : Cond.selects RX4 yX4_isFull yX4_isFull ∈ wsL_law := ck_5 _ (List.mem_of_getElem? (i := 4) rfl)
theorem mw_5_7 : Cond.methodLink RX6 52 yX4_append ∈ wsL_law := ck_5 _ (List.mem_of_getElem? (i := 7) rfl)
theorem mw_5_10 : Cond.code yX4_append cX4_append 2 none ∈ wsL_law := ck_5 _ (List.mem_of_getElem? (i := 10) rfl)
theorem mw_5_8 : Cond.instanceMethod yX4_append ∈ wsL_law := ck_5 _ (List.mem_of_getElem? (i := 8) rfl)
theorem mw_5_9 : Cond.selects RX4 yX4_append yX4_append ∈ wsL_law := ck_5 _ (List.mem_of_getElem? (i := 9) rfl)
theorem mw_5_1 : Cond.fieldLink RX6 56 "MudShares$Page" "length" "I" ∈ wsL_law := ck_5 _ (List.mem_of_getElem? (i := 1) rfl)
theorem mw_5_0 : Cond.constantLong RX6 50 (-1000005) ∈ wsL_law := ck_5 _ (List.mem_of_getElem? (i := 0) rfl)
theorem mw_6_1 : Cond.methodLink RX6 60 yX4_empty ∈ wsL_law := ck_6 _ (List.mem_of_getElem? (i := 1) rfl)
theorem mw_6_4 : Cond.code yX4_empty cX4_empty 1 none ∈ wsL_law := ck_6 _ (List.mem_of_getElem? (i := 4) rfl)
theorem mw_6_2 : Cond.instanceMethod yX4_empty ∈ wsL_law := ck_6 _ (List.mem_of_getElem? (i := 2) rfl)
theorem mw_6_3 : Cond.selects RX4 yX4_empty yX4_empty ∈ wsL_law := ck_6 _ (List.mem_of_getElem? (i := 3) rfl)
theorem mw_1_19 : Cond.fieldLink RX6 19 "MudShares" "reader" "LMudShares$Reader;" ∈ wsL_law := ck_1 _ (List.mem_of_getElem? (i := 19) rfl)
theorem mw_6_13 : Cond.methodLink RX6 63 yX5_read ∈ wsL_law := ck_6 _ (List.mem_of_getElem? (i := 13) rfl)
theorem mw_6_16 : Cond.code yX5_read cX5_read 3 (some .int) ∈ wsL_law := ck_6 _ (List.mem_of_getElem? (i := 16) rfl)
theorem mw_6_14 : Cond.instanceMethod yX5_read ∈ wsL_law := ck_6 _ (List.mem_of_getElem? (i := 14) rfl)
theorem mw_6_15 : Cond.selects RX5 yX5_read yX5_read ∈ wsL_law := ck_6 _ (List.mem_of_getElem? (i := 15) rfl)
theorem mw_9_7 : Cond.constantLong RX6 70 (-1000004) ∈ wsL_law := ck_9 _ (List.mem_of_getElem? (i := 7) rfl)
theorem mw_9_10 : Cond.methodLink RX6 67 yX5_finish ∈ wsL_law := ck_9 _ (List.mem_of_getElem? (i := 10) rfl)
theorem mw_9_13 : Cond.code yX5_finish cX5_finish 1 (some .boolean) ∈ wsL_law := ck_9 _ (List.mem_of_getElem? (i := 13) rfl)
theorem mw_9_11 : Cond.instanceMethod yX5_finish ∈ wsL_law := ck_9 _ (List.mem_of_getElem? (i := 11) rfl)
theorem mw_9_12 : Cond.selects RX5 yX5_finish yX5_finish ∈ wsL_law := ck_9 _ (List.mem_of_getElem? (i := 12) rfl)
theorem mw_1_23 : Cond.fieldLink RX6 26 "MudShares" "mud" "LMudShares$Mud;" ∈ wsL_law := ck_1 _ (List.mem_of_getElem? (i := 23) rfl)
theorem mw_9_14 : Cond.methodLink RX6 72 yX2_become ∈ wsL_law := ck_9 _ (List.mem_of_getElem? (i := 14) rfl)
theorem mw_9_17 : Cond.code yX2_become cX2_become 4 none ∈ wsL_law := ck_9 _ (List.mem_of_getElem? (i := 17) rfl)
theorem mw_9_15 : Cond.instanceMethod yX2_become ∈ wsL_law := ck_9 _ (List.mem_of_getElem? (i := 15) rfl)
theorem mw_9_16 : Cond.selects RX2 yX2_become yX2_become ∈ wsL_law := ck_9 _ (List.mem_of_getElem? (i := 16) rfl)
theorem mw_9_8 : Cond.fieldLink RX6 76 "MudShares" "timesRead" "J" ∈ wsL_law := ck_9 _ (List.mem_of_getElem? (i := 8) rfl)
theorem mw_9_9 : Cond.fieldLink RX6 80 "MudShares$Mud" "sourceCount" "I" ∈ wsL_law := ck_9 _ (List.mem_of_getElem? (i := 9) rfl)
theorem mw_11_9 : Cond.methodLink RX6 130 yX2_heldOf ∈ wsL_law := ck_11 _ (List.mem_of_getElem? (i := 9) rfl)
theorem mw_11_16 : Cond.methodLink RX6 127 yX2_putHeld ∈ wsL_law := ck_11 _ (List.mem_of_getElem? (i := 16) rfl)
theorem mw_11_19 : Cond.code yX2_putHeld cX2_putHeld 4 none ∈ wsL_law := ck_11 _ (List.mem_of_getElem? (i := 19) rfl)
theorem mw_11_17 : Cond.instanceMethod yX2_putHeld ∈ wsL_law := ck_11 _ (List.mem_of_getElem? (i := 17) rfl)
theorem mw_11_18 : Cond.selects RX2 yX2_putHeld yX2_putHeld ∈ wsL_law := ck_11 _ (List.mem_of_getElem? (i := 18) rfl)
theorem mw_10_21 : Cond.fieldLink RX6 104 "MudShares" "timesAltered" "J" ∈ wsL_law := ck_10 _ (List.mem_of_getElem? (i := 21) rfl)
theorem mw_10_22 : Cond.methodLink RX6 83 yX2_isTracer ∈ wsL_law := ck_10 _ (List.mem_of_getElem? (i := 22) rfl)
theorem mw_11_1 : Cond.code yX2_isTracer cX2_isTracer 2 (some .boolean) ∈ wsL_law := ck_11 _ (List.mem_of_getElem? (i := 1) rfl)
theorem mw_10_23 : Cond.instanceMethod yX2_isTracer ∈ wsL_law := ck_10 _ (List.mem_of_getElem? (i := 23) rfl)
theorem mw_11_0 : Cond.selects RX2 yX2_isTracer yX2_isTracer ∈ wsL_law := ck_11 _ (List.mem_of_getElem? (i := 0) rfl)
theorem mw_11_20 : Cond.methodLink RX6 96 yX2_weightOf ∈ wsL_law := ck_11 _ (List.mem_of_getElem? (i := 20) rfl)
theorem mw_12_0 : Cond.methodLink RX6 100 yX2_putWeight ∈ wsL_law := ck_12 _ (List.mem_of_getElem? (i := 0) rfl)
theorem mw_12_3 : Cond.code yX2_putWeight cX2_putWeight 3 none ∈ wsL_law := ck_12 _ (List.mem_of_getElem? (i := 3) rfl)
theorem mw_12_1 : Cond.instanceMethod yX2_putWeight ∈ wsL_law := ck_12 _ (List.mem_of_getElem? (i := 1) rfl)
theorem mw_12_2 : Cond.selects RX2 yX2_putWeight yX2_putWeight ∈ wsL_law := ck_12 _ (List.mem_of_getElem? (i := 2) rfl)
theorem mw_11_2 : Cond.methodLink RX6 89 yX6_isHeld ∈ wsL_law := ck_11 _ (List.mem_of_getElem? (i := 2) rfl)
theorem mw_11_4 : Cond.code yX6_isHeld cX6_isHeld 1 (some .boolean) ∈ wsL_law := ck_11 _ (List.mem_of_getElem? (i := 4) rfl)
theorem mw_11_3 : Cond.static yX6_isHeld ∈ wsL_law := ck_11 _ (List.mem_of_getElem? (i := 3) rfl)
theorem mw_11_5 : Cond.methodLink RX6 92 yX6_putHeld ∈ wsL_law := ck_11 _ (List.mem_of_getElem? (i := 5) rfl)
theorem mw_11_8 : Cond.code yX6_putHeld cX6_putHeld 6 (some .long) ∈ wsL_law := ck_11 _ (List.mem_of_getElem? (i := 8) rfl)
theorem mw_11_6 : Cond.instanceMethod yX6_putHeld ∈ wsL_law := ck_11 _ (List.mem_of_getElem? (i := 6) rfl)
theorem mw_11_7 : Cond.selects RX6 yX6_putHeld yX6_putHeld ∈ wsL_law := ck_11 _ (List.mem_of_getElem? (i := 7) rfl)
theorem mw_10_20 : Cond.constantLong RX6 87 (-1000002) ∈ wsL_law := ck_10 _ (List.mem_of_getElem? (i := 20) rfl)
theorem mw_12_18 : Cond.methodLink RX6 107 yX2_isSource ∈ wsL_law := ck_12 _ (List.mem_of_getElem? (i := 18) rfl)
theorem mw_12_21 : Cond.code yX2_isSource cX2_isSource 2 (some .boolean) ∈ wsL_law := ck_12 _ (List.mem_of_getElem? (i := 21) rfl)
theorem mw_12_19 : Cond.instanceMethod yX2_isSource ∈ wsL_law := ck_12 _ (List.mem_of_getElem? (i := 19) rfl)
theorem mw_12_20 : Cond.selects RX2 yX2_isSource yX2_isSource ∈ wsL_law := ck_12 _ (List.mem_of_getElem? (i := 20) rfl)
theorem fg_X6_12 : FG RX6 12 6 0 := ⟨RX6, TX6, 7, rfl, by decide, inlX6, mw_1_15⟩
theorem fg_X6_56 : FG RX6 56 4 1 := ⟨RX4, TX4, 2, rfl, by decide, inlX4, mw_5_1⟩
theorem fg_X6_19 : FG RX6 19 6 1 := ⟨RX6, TX6, 7, rfl, by decide, inlX6, mw_1_19⟩
theorem fg_X6_26 : FG RX6 26 6 2 := ⟨RX6, TX6, 7, rfl, by decide, inlX6, mw_1_23⟩
theorem fg_X6_76 : FG RX6 76 6 5 := ⟨RX6, TX6, 7, rfl, by decide, inlX6, mw_9_8⟩
theorem fp_X6_76 : FP RX6 76 6 5 .long := ⟨RX6, TX6, 7, tyX6, rfl, by decide, inlX6, mw_9_8, tyX6_ok, nmX6, rfl, by decide +kernel⟩
theorem fg_X6_80 : FG RX6 80 2 2 := ⟨RX2, TX2, 4, rfl, by decide, inlX2, mw_9_9⟩
theorem fg_X6_104 : FG RX6 104 6 6 := ⟨RX6, TX6, 7, rfl, by decide, inlX6, mw_10_21⟩
theorem fp_X6_104 : FP RX6 104 6 6 .long := ⟨RX6, TX6, 7, tyX6, rfl, by decide, inlX6, mw_10_21, tyX6_ok, nmX6, rfl, by decide +kernel⟩
theorem kf_X4_isFull : KV RX4 yX4_isFull cX4_isFull 1 (some .boolean) 0 := ⟨mw_5_5, mw_5_3, mw_5_4, mw_1_14, by decide, by decide, by decide +kernel⟩
theorem kf_X4_append : KV RX4 yX4_append cX4_append 2 none 1 := ⟨mw_5_10, mw_5_8, mw_5_9, mw_1_14, by decide, by decide, by decide +kernel⟩
theorem kf_X4_empty : KV RX4 yX4_empty cX4_empty 1 none 0 := ⟨mw_6_4, mw_6_2, mw_6_3, mw_1_14, by decide, by decide, by decide +kernel⟩
theorem kf_X5_read : KV RX5 yX5_read cX5_read 3 (some .int) 1 := ⟨mw_6_16, mw_6_14, mw_6_15, mw_1_18, by decide, by decide, by decide +kernel⟩
theorem kf_X5_finish : KV RX5 yX5_finish cX5_finish 1 (some .boolean) 0 := ⟨mw_9_13, mw_9_11, mw_9_12, mw_1_18, by decide, by decide, by decide +kernel⟩
theorem kf_X2_become : KV RX2 yX2_become cX2_become 4 none 1 := ⟨mw_9_17, mw_9_15, mw_9_16, mw_1_22, by decide, by decide, by decide +kernel⟩
theorem kf_X2_putHeld : KV RX2 yX2_putHeld cX2_putHeld 4 none 3 := ⟨mw_11_19, mw_11_17, mw_11_18, mw_1_22, by decide, by decide, by decide +kernel⟩
theorem kf_X2_isTracer : KV RX2 yX2_isTracer cX2_isTracer 2 (some .boolean) 1 := ⟨mw_11_1, mw_10_23, mw_11_0, mw_1_22, by decide, by decide, by decide +kernel⟩
theorem kf_X2_putWeight : KV RX2 yX2_putWeight cX2_putWeight 3 none 2 := ⟨mw_12_3, mw_12_1, mw_12_2, mw_1_22, by decide, by decide, by decide +kernel⟩
theorem kf_X6_isHeld : KS yX6_isHeld cX6_isHeld 1 (some .boolean) 1 := ⟨mw_11_4, mw_11_3, mw_1_2, by decide, by decide, by decide +kernel⟩
theorem kf_X6_putHeld : KV RX6 yX6_putHeld cX6_putHeld 6 (some .long) 3 := ⟨mw_11_8, mw_11_6, mw_11_7, mw_1_2, by decide, by decide, by decide +kernel⟩
theorem kf_X2_isSource : KV RX2 yX2_isSource cX2_isSource 2 (some .boolean) 1 := ⟨mw_12_21, mw_12_19, mw_12_20, mw_1_22, by decide, by decide, by decide +kernel⟩
def f_X6_letter (xpl : Int32) (xpc : Nat → Int32) (q1 : Int32) : Int64 × Int32 × (Nat → Int32) := (if q1 < 32 then ((-1000003), xpl, xpc) else (if q1 ≤ 126 then (if (f_X4_isFull xpl) = 0 then ((fun (z35_4 : Int32 × (Nat → Int32)) => ((Int32.toInt64 z35_4.1), z35_4.1, z35_4.2)) (f_X4_append xpl xpc q1)) else ((-1000005), xpl, xpc)) else ((-1000003), xpl, xpc)))
set_option maxRecDepth 100000 in
set_option maxHeartbeats 4000000 in
theorem c_X6_letter (l : Launch) (D : va_G) (cI cJ : ClassId) (ax ap ar au an ato apc ard af anq afp afm afs aft afq auh auw : Nat) (xrd : Int64) (xal : Int64) (xta : Int64) (xtb : Int64) (xpl : Int32) (xpc : Nat → Int32) (xso : Int32) (xtr : Int32) (xwi : Int32) (xnu : Int32) (xdr : Nat → Int32) (xns : Int32) (xnc : Int32) (xna : Int64) (xnb : Int64) (xfs : Int32) (xba : Int32) (xbe : Int64) (xpr : Nat → Int64) (xmx : Nat → Int64) (xsd : Nat → Int64) (xpt : Nat → Int64) (xfa : Int64) (xfb : Int64) (xsc : Int32) (xtc : Int32) (xhd : Nat → Int32) (xwt : Nat → Int32) (q1 : Int32) : CL l yX6_letter cX6_letter 2 1 D cI cJ [.ref ax, .int q1] [(ax, .inr (6, [.ref ap, .ref ar, .ref au, .ref an, .ref ato, .long xrd, .long xal])), (ato, .inr (1, [.long xta, .long xtb])), (ap, .inr (4, [.ref apc, .int xpl])), (apc, .inl (cI, 47, .inl xpc)), (ar, .inr (5, [.ref ard, .int xso, .int xtr, .int xwi, .int xnu])), (ard, .inl (cI, 16, .inl xdr)), (an, .inr (3, [.ref af, .ref anq, .int xns, .int xnc])), (anq, .inr (1, [.long xna, .long xnb])), (af, .inr (0, [.ref afp, .ref afm, .ref afs, .ref aft, .ref afq, .int xfs, .int xba, .long xbe])), (afp, .inl (cJ, 25, .inr (.inl xpr))), (afm, .inl (cJ, 9, .inr (.inl xmx))), (afs, .inl (cJ, 3, .inr (.inl xsd))), (aft, .inl (cJ, 4, .inr (.inl xpt))), (afq, .inr (1, [.long xfa, .long xfb])), (au, .inr (2, [.ref auh, .ref auw, .int xsc, .int xtc])), (auh, .inl (cI, 20, .inl xhd)), (auw, .inl (cI, 4, .inl xwt))] [(ax, .inr (6, [.ref ap, .ref ar, .ref au, .ref an, .ref ato, .long xrd, .long xal])), (ato, .inr (1, [.long xta, .long xtb])), (ap, .inr (4, [.ref apc, .int ((f_X6_letter xpl xpc q1).2.1)])), (apc, .inl (cI, 47, .inl ((f_X6_letter xpl xpc q1).2.2))), (ar, .inr (5, [.ref ard, .int xso, .int xtr, .int xwi, .int xnu])), (ard, .inl (cI, 16, .inl xdr)), (an, .inr (3, [.ref af, .ref anq, .int xns, .int xnc])), (anq, .inr (1, [.long xna, .long xnb])), (af, .inr (0, [.ref afp, .ref afm, .ref afs, .ref aft, .ref afq, .int xfs, .int xba, .long xbe])), (afp, .inl (cJ, 25, .inr (.inl xpr))), (afm, .inl (cJ, 9, .inr (.inl xmx))), (afs, .inl (cJ, 3, .inr (.inl xsd))), (aft, .inl (cJ, 4, .inr (.inl xpt))), (afq, .inr (1, [.long xfa, .long xfb])), (au, .inr (2, [.ref auh, .ref auw, .int xsc, .int xtc])), (auh, .inl (cI, 20, .inl xhd)), (auw, .inl (cI, 4, .inl xwt))] ((f_X6_letter xpl xpc q1).1) := by
  generalize hr : f_X6_letter xpl xpc q1 = r
  refine fr_entryL (by decide) rfl ?_
  intro p e s m args below meth c A Q H locs hQ C hret hlk w ls hl
  have hx := C.1
  have hb := C.2.1
  have hl : lv_has ls 2 [(0, .ref ax), (1, .int q1)] := hl
  have hr : (if q1 < 32 then ((-1000003), xpl, xpc) else (if q1 ≤ 126 then (if (f_X4_isFull xpl) = 0 then ((fun (z35_4 : Int32 × (Nat → Int32)) => ((Int32.toInt64 z35_4.1), z35_4.1, z35_4.2)) (f_X4_append xpl xpc q1)) else ((-1000005), xpl, xpc)) else ((-1000003), xpl, xpc))) = r := hr
  refine lv_iload_n hx hb dX6_letter_0 rfl (lv_at hl 1 rfl) ?_
  refine lv_bipush (v := 32) hx hb dX6_letter_1 (by decide) ?_
  refine lv_icmp_lt (tgt := 12) hx hb dX6_letter_3 (by decide) (fun c3_1 => ?_) (fun c3_1 => ?_)
  · have hr := (if_pos c3_1).symm.trans hr
    refine lv_ldc2 hx hb C.2.2.2.1 (C.2.2.2.2.1 _ mw_4_23) dX6_letter_12 ?_
    subst hr hQ
    exact fr_lret C hret hlk w rfl rfl dX6_letter_15
  · have hr := (if_neg c3_1).symm.trans hr
    refine lv_iload_n hx hb dX6_letter_6 rfl (lv_at hl 1 rfl) ?_
    refine lv_bipush (v := 126) hx hb dX6_letter_7 (by decide) ?_
    refine lv_icmp_le (tgt := 16) hx hb dX6_letter_9 (by decide) (fun c9_2 => ?_) (fun c9_2 => ?_)
    · have hr := (if_pos c9_2).symm.trans hr
      refine lv_aload_n hx hb dX6_letter_16 rfl (lv_at hl 0 rfl) ?_
      refine fr_get C w fg_X6_12 0 rfl rfl dX6_letter_17 ?_
      refine fr_callIV (As := []) (rest := []) C w kf_X4_isFull mw_5_2 (c_X4_isFull l D cI cJ ap apc xpl xpc) ⟨Nat.le_of_ble_eq_true rfl, Nat.le_of_ble_eq_true rfl⟩ ⟨Nat.le_refl 0, Nat.le_refl 0⟩ [2, 3] rfl rfl rfl (ws' := [(ax, .inr (6, [.ref ap, .ref ar, .ref au, .ref an, .ref ato, .long xrd, .long xal])), (ato, .inr (1, [.long xta, .long xtb])), (ap, .inr (4, [.ref apc, .int xpl])), (apc, .inl (cI, 47, .inl xpc)), (ar, .inr (5, [.ref ard, .int xso, .int xtr, .int xwi, .int xnu])), (ard, .inl (cI, 16, .inl xdr)), (an, .inr (3, [.ref af, .ref anq, .int xns, .int xnc])), (anq, .inr (1, [.long xna, .long xnb])), (af, .inr (0, [.ref afp, .ref afm, .ref afs, .ref aft, .ref afq, .int xfs, .int xba, .long xbe])), (afp, .inl (cJ, 25, .inr (.inl xpr))), (afm, .inl (cJ, 9, .inr (.inl xmx))), (afs, .inl (cJ, 3, .inr (.inl xsd))), (aft, .inl (cJ, 4, .inr (.inl xpt))), (afq, .inr (1, [.long xfa, .long xfb])), (au, .inr (2, [.ref auh, .ref auw, .int xsc, .int xtc])), (auh, .inl (cI, 20, .inl xhd)), (auw, .inl (cI, 4, .inl xwt))]) rfl rfl rfl rfl hl.1 rfl (Nat.le_of_ble_eq_true rfl) dX6_letter_20 (fun H locs w => ?_)
      refine lv_if_eq (tgt := 30) hx hb dX6_letter_23 (by decide) (fun c23_3 => ?_) (fun c23_3 => ?_)
      · have hr := (if_pos c23_3).symm.trans hr
        refine lv_aload_n hx hb dX6_letter_30 rfl (lv_at hl 0 rfl) ?_
        refine fr_get C w fg_X6_12 0 rfl rfl dX6_letter_31 ?_
        refine lv_iload_n hx hb dX6_letter_34 rfl (lv_at hl 1 rfl) ?_
        obtain ⟨z35_4, hz35_4⟩ : ∃ y, (f_X4_append xpl xpc q1) = y := ⟨_, rfl⟩
        have hcz35_4 := c_X4_append l D cI cJ ap apc xpl xpc q1
        rw [hz35_4] at hcz35_4
        have hr : ((Int32.toInt64 z35_4.1), z35_4.1, z35_4.2) = r := by subst hz35_4; exact hr
        refine fr_callVV (As := [.int q1]) (rest := []) C w kf_X4_append mw_5_7 (hcz35_4) ⟨Nat.le_of_ble_eq_true rfl, Nat.le_of_ble_eq_true rfl⟩ ⟨Nat.le_refl 0, Nat.le_refl 0⟩ [2, 3] rfl rfl rfl (ws' := [(ax, .inr (6, [.ref ap, .ref ar, .ref au, .ref an, .ref ato, .long xrd, .long xal])), (ato, .inr (1, [.long xta, .long xtb])), (ap, .inr (4, [.ref apc, .int z35_4.1])), (apc, .inl (cI, 47, .inl z35_4.2)), (ar, .inr (5, [.ref ard, .int xso, .int xtr, .int xwi, .int xnu])), (ard, .inl (cI, 16, .inl xdr)), (an, .inr (3, [.ref af, .ref anq, .int xns, .int xnc])), (anq, .inr (1, [.long xna, .long xnb])), (af, .inr (0, [.ref afp, .ref afm, .ref afs, .ref aft, .ref afq, .int xfs, .int xba, .long xbe])), (afp, .inl (cJ, 25, .inr (.inl xpr))), (afm, .inl (cJ, 9, .inr (.inl xmx))), (afs, .inl (cJ, 3, .inr (.inl xsd))), (aft, .inl (cJ, 4, .inr (.inl xpt))), (afq, .inr (1, [.long xfa, .long xfb])), (au, .inr (2, [.ref auh, .ref auw, .int xsc, .int xtc])), (auh, .inl (cI, 20, .inl xhd)), (auw, .inl (cI, 4, .inl xwt))]) rfl rfl rfl rfl hl.1 rfl (Nat.le_of_ble_eq_true rfl) dX6_letter_35 (fun H locs w => ?_)
        refine lv_aload_n hx hb dX6_letter_38 rfl (lv_at hl 0 rfl) ?_
        refine fr_get C w fg_X6_12 0 rfl rfl dX6_letter_39 ?_
        refine fr_get C w fg_X6_56 2 rfl rfl dX6_letter_42 ?_
        refine lv_i2l (v := (Int32.toInt64 z35_4.1)) hx hb dX6_letter_45 rfl ?_
        subst hr hQ
        exact fr_lret C hret hlk w rfl rfl dX6_letter_46
      · have hr := (if_neg c23_3).symm.trans hr
        refine lv_ldc2 hx hb C.2.2.2.1 (C.2.2.2.2.1 _ mw_5_0) dX6_letter_26 ?_
        subst hr hQ
        exact fr_lret C hret hlk w rfl rfl dX6_letter_29
    · have hr := (if_neg c9_2).symm.trans hr
      refine lv_ldc2 hx hb C.2.2.2.1 (C.2.2.2.2.1 _ mw_4_23) dX6_letter_12 ?_
      subst hr hQ
      exact fr_lret C hret hlk w rfl rfl dX6_letter_15
def f_X6_blank (xpl : Int32) : Int64 × Int32 := ((Int32.toInt64 xpl), f_X4_empty)
set_option maxRecDepth 100000 in
set_option maxHeartbeats 4000000 in
theorem c_X6_blank (l : Launch) (D : va_G) (cI cJ : ClassId) (ax ap ar au an ato apc ard af anq afp afm afs aft afq auh auw : Nat) (xrd : Int64) (xal : Int64) (xta : Int64) (xtb : Int64) (xpl : Int32) (xpc : Nat → Int32) (xso : Int32) (xtr : Int32) (xwi : Int32) (xnu : Int32) (xdr : Nat → Int32) (xns : Int32) (xnc : Int32) (xna : Int64) (xnb : Int64) (xfs : Int32) (xba : Int32) (xbe : Int64) (xpr : Nat → Int64) (xmx : Nat → Int64) (xsd : Nat → Int64) (xpt : Nat → Int64) (xfa : Int64) (xfb : Int64) (xsc : Int32) (xtc : Int32) (xhd : Nat → Int32) (xwt : Nat → Int32)  : CL l yX6_blank cX6_blank 3 1 D cI cJ [.ref ax] [(ax, .inr (6, [.ref ap, .ref ar, .ref au, .ref an, .ref ato, .long xrd, .long xal])), (ato, .inr (1, [.long xta, .long xtb])), (ap, .inr (4, [.ref apc, .int xpl])), (apc, .inl (cI, 47, .inl xpc)), (ar, .inr (5, [.ref ard, .int xso, .int xtr, .int xwi, .int xnu])), (ard, .inl (cI, 16, .inl xdr)), (an, .inr (3, [.ref af, .ref anq, .int xns, .int xnc])), (anq, .inr (1, [.long xna, .long xnb])), (af, .inr (0, [.ref afp, .ref afm, .ref afs, .ref aft, .ref afq, .int xfs, .int xba, .long xbe])), (afp, .inl (cJ, 25, .inr (.inl xpr))), (afm, .inl (cJ, 9, .inr (.inl xmx))), (afs, .inl (cJ, 3, .inr (.inl xsd))), (aft, .inl (cJ, 4, .inr (.inl xpt))), (afq, .inr (1, [.long xfa, .long xfb])), (au, .inr (2, [.ref auh, .ref auw, .int xsc, .int xtc])), (auh, .inl (cI, 20, .inl xhd)), (auw, .inl (cI, 4, .inl xwt))] [(ax, .inr (6, [.ref ap, .ref ar, .ref au, .ref an, .ref ato, .long xrd, .long xal])), (ato, .inr (1, [.long xta, .long xtb])), (ap, .inr (4, [.ref apc, .int ((f_X6_blank xpl).2)])), (apc, .inl (cI, 47, .inl xpc)), (ar, .inr (5, [.ref ard, .int xso, .int xtr, .int xwi, .int xnu])), (ard, .inl (cI, 16, .inl xdr)), (an, .inr (3, [.ref af, .ref anq, .int xns, .int xnc])), (anq, .inr (1, [.long xna, .long xnb])), (af, .inr (0, [.ref afp, .ref afm, .ref afs, .ref aft, .ref afq, .int xfs, .int xba, .long xbe])), (afp, .inl (cJ, 25, .inr (.inl xpr))), (afm, .inl (cJ, 9, .inr (.inl xmx))), (afs, .inl (cJ, 3, .inr (.inl xsd))), (aft, .inl (cJ, 4, .inr (.inl xpt))), (afq, .inr (1, [.long xfa, .long xfb])), (au, .inr (2, [.ref auh, .ref auw, .int xsc, .int xtc])), (auh, .inl (cI, 20, .inl xhd)), (auw, .inl (cI, 4, .inl xwt))] ((f_X6_blank xpl).1) := by
  generalize hr : f_X6_blank xpl = r
  refine fr_entryL (by decide) rfl ?_
  intro p e s m args below meth c A Q H locs hQ C hret hlk w ls hl
  have hx := C.1
  have hb := C.2.1
  have hl : lv_has ls 3 [(0, .ref ax)] := hl
  have hr : ((Int32.toInt64 xpl), f_X4_empty) = r := hr
  refine lv_aload_n hx hb dX6_blank_0 rfl (lv_at hl 0 rfl) ?_
  refine fr_get C w fg_X6_12 0 rfl rfl dX6_blank_1 ?_
  refine fr_get C w fg_X6_56 2 rfl rfl dX6_blank_4 ?_
  refine lv_i2l (v := (Int32.toInt64 xpl)) hx hb dX6_blank_7 rfl ?_
  refine lv_lstore_n (lv' := [(1, .long (Int32.toInt64 xpl)), (0, .ref ax)]) hx hb dX6_blank_8 rfl hl (by decide) rfl (fun ls hl => ?_)
  refine lv_aload_n hx hb dX6_blank_9 rfl (lv_at hl 1 rfl) ?_
  refine fr_get C w fg_X6_12 0 rfl rfl dX6_blank_10 ?_
  refine fr_callVV (As := []) (rest := []) C w kf_X4_empty mw_6_1 (c_X4_empty l D cI cJ ap apc xpl xpc) ⟨Nat.le_of_ble_eq_true rfl, Nat.le_of_ble_eq_true rfl⟩ ⟨Nat.le_refl 0, Nat.le_refl 0⟩ [2, 3] rfl rfl rfl (ws' := [(ax, .inr (6, [.ref ap, .ref ar, .ref au, .ref an, .ref ato, .long xrd, .long xal])), (ato, .inr (1, [.long xta, .long xtb])), (ap, .inr (4, [.ref apc, .int f_X4_empty])), (apc, .inl (cI, 47, .inl xpc)), (ar, .inr (5, [.ref ard, .int xso, .int xtr, .int xwi, .int xnu])), (ard, .inl (cI, 16, .inl xdr)), (an, .inr (3, [.ref af, .ref anq, .int xns, .int xnc])), (anq, .inr (1, [.long xna, .long xnb])), (af, .inr (0, [.ref afp, .ref afm, .ref afs, .ref aft, .ref afq, .int xfs, .int xba, .long xbe])), (afp, .inl (cJ, 25, .inr (.inl xpr))), (afm, .inl (cJ, 9, .inr (.inl xmx))), (afs, .inl (cJ, 3, .inr (.inl xsd))), (aft, .inl (cJ, 4, .inr (.inl xpt))), (afq, .inr (1, [.long xfa, .long xfb])), (au, .inr (2, [.ref auh, .ref auw, .int xsc, .int xtc])), (auh, .inl (cI, 20, .inl xhd)), (auw, .inl (cI, 4, .inl xwt))]) rfl rfl rfl rfl hl.1 rfl (Nat.le_of_ble_eq_true rfl) dX6_blank_13 (fun H locs w => ?_)
  refine lv_lload_n hx hb dX6_blank_16 rfl (lv_at hl 0 rfl) ?_
  subst hr hQ
  exact fr_lret C hret hlk w rfl rfl dX6_blank_17
def f_X6_fault (xpl : Int32) (xpc : Nat → Int32) (xdr : Nat → Int32) : Int64 × Int32 × Int32 × Int32 × Int32 × (Nat → Int32) := ((fun (z8_1 : Int32 × Int32 × Int32 × Int32 × Int32 × (Nat → Int32)) => ((Int32.toInt64 z8_1.1), z8_1.2.1, z8_1.2.2.1, z8_1.2.2.2.1, z8_1.2.2.2.2.1, z8_1.2.2.2.2.2)) (f_X5_read xdr xpl xpc))
set_option maxRecDepth 100000 in
set_option maxHeartbeats 4000000 in
theorem c_X6_fault (l : Launch) (D : va_G) (cI cJ : ClassId) (ax ap ar au an ato apc ard af anq afp afm afs aft afq auh auw : Nat) (xrd : Int64) (xal : Int64) (xta : Int64) (xtb : Int64) (xpl : Int32) (xpc : Nat → Int32) (xso : Int32) (xtr : Int32) (xwi : Int32) (xnu : Int32) (xdr : Nat → Int32) (xns : Int32) (xnc : Int32) (xna : Int64) (xnb : Int64) (xfs : Int32) (xba : Int32) (xbe : Int64) (xpr : Nat → Int64) (xmx : Nat → Int64) (xsd : Nat → Int64) (xpt : Nat → Int64) (xfa : Int64) (xfb : Int64) (xsc : Int32) (xtc : Int32) (xhd : Nat → Int32) (xwt : Nat → Int32)  (hpl : ∃ n : Nat, n ≤ 47 ∧ xpl = nI n) : CL l yX6_fault cX6_fault 1 4 D cI cJ [.ref ax] [(ax, .inr (6, [.ref ap, .ref ar, .ref au, .ref an, .ref ato, .long xrd, .long xal])), (ato, .inr (1, [.long xta, .long xtb])), (ap, .inr (4, [.ref apc, .int xpl])), (apc, .inl (cI, 47, .inl xpc)), (ar, .inr (5, [.ref ard, .int xso, .int xtr, .int xwi, .int xnu])), (ard, .inl (cI, 16, .inl xdr)), (an, .inr (3, [.ref af, .ref anq, .int xns, .int xnc])), (anq, .inr (1, [.long xna, .long xnb])), (af, .inr (0, [.ref afp, .ref afm, .ref afs, .ref aft, .ref afq, .int xfs, .int xba, .long xbe])), (afp, .inl (cJ, 25, .inr (.inl xpr))), (afm, .inl (cJ, 9, .inr (.inl xmx))), (afs, .inl (cJ, 3, .inr (.inl xsd))), (aft, .inl (cJ, 4, .inr (.inl xpt))), (afq, .inr (1, [.long xfa, .long xfb])), (au, .inr (2, [.ref auh, .ref auw, .int xsc, .int xtc])), (auh, .inl (cI, 20, .inl xhd)), (auw, .inl (cI, 4, .inl xwt))] [(ax, .inr (6, [.ref ap, .ref ar, .ref au, .ref an, .ref ato, .long xrd, .long xal])), (ato, .inr (1, [.long xta, .long xtb])), (ap, .inr (4, [.ref apc, .int xpl])), (apc, .inl (cI, 47, .inl xpc)), (ar, .inr (5, [.ref ard, .int ((f_X6_fault xpl xpc xdr).2.1), .int ((f_X6_fault xpl xpc xdr).2.2.1), .int ((f_X6_fault xpl xpc xdr).2.2.2.1), .int ((f_X6_fault xpl xpc xdr).2.2.2.2.1)])), (ard, .inl (cI, 16, .inl ((f_X6_fault xpl xpc xdr).2.2.2.2.2))), (an, .inr (3, [.ref af, .ref anq, .int xns, .int xnc])), (anq, .inr (1, [.long xna, .long xnb])), (af, .inr (0, [.ref afp, .ref afm, .ref afs, .ref aft, .ref afq, .int xfs, .int xba, .long xbe])), (afp, .inl (cJ, 25, .inr (.inl xpr))), (afm, .inl (cJ, 9, .inr (.inl xmx))), (afs, .inl (cJ, 3, .inr (.inl xsd))), (aft, .inl (cJ, 4, .inr (.inl xpt))), (afq, .inr (1, [.long xfa, .long xfb])), (au, .inr (2, [.ref auh, .ref auw, .int xsc, .int xtc])), (auh, .inl (cI, 20, .inl xhd)), (auw, .inl (cI, 4, .inl xwt))] ((f_X6_fault xpl xpc xdr).1) := by
  generalize hr : f_X6_fault xpl xpc xdr = r
  refine fr_entryL (by decide) rfl ?_
  intro p e s m args below meth c A Q H locs hQ C hret hlk w ls hl
  have hx := C.1
  have hb := C.2.1
  have hl : lv_has ls 1 [(0, .ref ax)] := hl
  have hr : ((fun (z8_1 : Int32 × Int32 × Int32 × Int32 × Int32 × (Nat → Int32)) => ((Int32.toInt64 z8_1.1), z8_1.2.1, z8_1.2.2.1, z8_1.2.2.2.1, z8_1.2.2.2.2.1, z8_1.2.2.2.2.2)) (f_X5_read xdr xpl xpc)) = r := hr
  refine lv_aload_n hx hb dX6_fault_0 rfl (lv_at hl 0 rfl) ?_
  refine fr_get C w fg_X6_19 0 rfl rfl dX6_fault_1 ?_
  refine lv_aload_n hx hb dX6_fault_4 rfl (lv_at hl 0 rfl) ?_
  refine fr_get C w fg_X6_12 0 rfl rfl dX6_fault_5 ?_
  obtain ⟨z8_1, hz8_1⟩ : ∃ y, (f_X5_read xdr xpl xpc) = y := ⟨_, rfl⟩
  have hcz8_1 := c_X5_read l D cI cJ ar ard ap apc xso xtr xwi xnu xdr xpl xpc (by assumption)
  rw [hz8_1] at hcz8_1
  have hr : ((Int32.toInt64 z8_1.1), z8_1.2.1, z8_1.2.2.1, z8_1.2.2.2.1, z8_1.2.2.2.2.1, z8_1.2.2.2.2.2) = r := by subst hz8_1; exact hr
  refine fr_callIV (As := [.ref ap]) (rest := []) C w kf_X5_read mw_6_13 (hcz8_1) ⟨Nat.le_of_ble_eq_true rfl, Nat.le_of_ble_eq_true rfl⟩ ⟨Nat.le_refl 0, Nat.le_refl 0⟩ [4, 5, 2, 3] rfl rfl rfl (ws' := [(ax, .inr (6, [.ref ap, .ref ar, .ref au, .ref an, .ref ato, .long xrd, .long xal])), (ato, .inr (1, [.long xta, .long xtb])), (ap, .inr (4, [.ref apc, .int xpl])), (apc, .inl (cI, 47, .inl xpc)), (ar, .inr (5, [.ref ard, .int z8_1.2.1, .int z8_1.2.2.1, .int z8_1.2.2.2.1, .int z8_1.2.2.2.2.1])), (ard, .inl (cI, 16, .inl z8_1.2.2.2.2.2)), (an, .inr (3, [.ref af, .ref anq, .int xns, .int xnc])), (anq, .inr (1, [.long xna, .long xnb])), (af, .inr (0, [.ref afp, .ref afm, .ref afs, .ref aft, .ref afq, .int xfs, .int xba, .long xbe])), (afp, .inl (cJ, 25, .inr (.inl xpr))), (afm, .inl (cJ, 9, .inr (.inl xmx))), (afs, .inl (cJ, 3, .inr (.inl xsd))), (aft, .inl (cJ, 4, .inr (.inl xpt))), (afq, .inr (1, [.long xfa, .long xfb])), (au, .inr (2, [.ref auh, .ref auw, .int xsc, .int xtc])), (auh, .inl (cI, 20, .inl xhd)), (auw, .inl (cI, 4, .inl xwt))]) rfl rfl rfl rfl hl.1 rfl (Nat.le_of_ble_eq_true rfl) dX6_fault_8 (fun H locs w => ?_)
  refine lv_i2l (v := (Int32.toInt64 z8_1.1)) hx hb dX6_fault_11 rfl ?_
  subst hr hQ
  exact fr_lret C hret hlk w rfl rfl dX6_fault_12
def f_X6_sources (xrd : Int64) (xpl : Int32) (xpc : Nat → Int32) (xdr : Nat → Int32) (xsc : Int32) (xtc : Int32) (xhd : Nat → Int32) (xwt : Nat → Int32) : Int64 × Int64 × Int32 × Int32 × Int32 × Int32 × Int32 × (Nat → Int32) × Int32 × Int32 × (Nat → Int32) × (Nat → Int32) := ((fun (z8_1 : Int32 × Int32 × Int32 × Int32 × Int32 × (Nat → Int32)) => (if z8_1.1 < xpl then ((-1000004), xrd, xpl, z8_1.2.1, z8_1.2.2.1, z8_1.2.2.2.1, z8_1.2.2.2.2.1, z8_1.2.2.2.2.2, xsc, xtc, xhd, xwt) else ((fun (z25_3 : Int32 × Int32 × (Nat → Int32)) => (if z25_3.1 = 0 then ((-1000004), xrd, xpl, z8_1.2.1, z8_1.2.2.1, z8_1.2.2.2.1, z25_3.2.1, z25_3.2.2, xsc, xtc, xhd, xwt) else ((fun (z43_5 : Int32 × Int32 × (Nat → Int32) × (Nat → Int32)) => ((Int32.toInt64 z43_5.1), xrd + 1, f_X4_empty, z8_1.2.1, z8_1.2.2.1, z8_1.2.2.2.1, z25_3.2.1, z25_3.2.2, z43_5.1, z43_5.2.1, z43_5.2.2.1, z43_5.2.2.2)) (f_X2_become xhd xwt z8_1.2.1 z8_1.2.2.1 z25_3.2.2)))) (f_X5_finish z8_1.2.1 z8_1.2.2.1 z8_1.2.2.2.1 z8_1.2.2.2.2.1 z8_1.2.2.2.2.2)))) (f_X5_read xdr xpl xpc))
set_option maxRecDepth 100000 in
set_option maxHeartbeats 4000000 in
theorem c_X6_sources (l : Launch) (D : va_G) (cI cJ : ClassId) (ax ap ar au an ato apc ard af anq afp afm afs aft afq auh auw : Nat) (xrd : Int64) (xal : Int64) (xta : Int64) (xtb : Int64) (xpl : Int32) (xpc : Nat → Int32) (xso : Int32) (xtr : Int32) (xwi : Int32) (xnu : Int32) (xdr : Nat → Int32) (xns : Int32) (xnc : Int32) (xna : Int64) (xnb : Int64) (xfs : Int32) (xba : Int32) (xbe : Int64) (xpr : Nat → Int64) (xmx : Nat → Int64) (xsd : Nat → Int64) (xpt : Nat → Int64) (xfa : Int64) (xfb : Int64) (xsc : Int32) (xtc : Int32) (xhd : Nat → Int32) (xwt : Nat → Int32)  (hpl : ∃ n : Nat, n ≤ 47 ∧ xpl = nI n) : CL l yX6_sources cX6_sources 1 4 D cI cJ [.ref ax] [(ax, .inr (6, [.ref ap, .ref ar, .ref au, .ref an, .ref ato, .long xrd, .long xal])), (ato, .inr (1, [.long xta, .long xtb])), (ap, .inr (4, [.ref apc, .int xpl])), (apc, .inl (cI, 47, .inl xpc)), (ar, .inr (5, [.ref ard, .int xso, .int xtr, .int xwi, .int xnu])), (ard, .inl (cI, 16, .inl xdr)), (an, .inr (3, [.ref af, .ref anq, .int xns, .int xnc])), (anq, .inr (1, [.long xna, .long xnb])), (af, .inr (0, [.ref afp, .ref afm, .ref afs, .ref aft, .ref afq, .int xfs, .int xba, .long xbe])), (afp, .inl (cJ, 25, .inr (.inl xpr))), (afm, .inl (cJ, 9, .inr (.inl xmx))), (afs, .inl (cJ, 3, .inr (.inl xsd))), (aft, .inl (cJ, 4, .inr (.inl xpt))), (afq, .inr (1, [.long xfa, .long xfb])), (au, .inr (2, [.ref auh, .ref auw, .int xsc, .int xtc])), (auh, .inl (cI, 20, .inl xhd)), (auw, .inl (cI, 4, .inl xwt))] [(ax, .inr (6, [.ref ap, .ref ar, .ref au, .ref an, .ref ato, .long ((f_X6_sources xrd xpl xpc xdr xsc xtc xhd xwt).2.1), .long xal])), (ato, .inr (1, [.long xta, .long xtb])), (ap, .inr (4, [.ref apc, .int ((f_X6_sources xrd xpl xpc xdr xsc xtc xhd xwt).2.2.1)])), (apc, .inl (cI, 47, .inl xpc)), (ar, .inr (5, [.ref ard, .int ((f_X6_sources xrd xpl xpc xdr xsc xtc xhd xwt).2.2.2.1), .int ((f_X6_sources xrd xpl xpc xdr xsc xtc xhd xwt).2.2.2.2.1), .int ((f_X6_sources xrd xpl xpc xdr xsc xtc xhd xwt).2.2.2.2.2.1), .int ((f_X6_sources xrd xpl xpc xdr xsc xtc xhd xwt).2.2.2.2.2.2.1)])), (ard, .inl (cI, 16, .inl ((f_X6_sources xrd xpl xpc xdr xsc xtc xhd xwt).2.2.2.2.2.2.2.1))), (an, .inr (3, [.ref af, .ref anq, .int xns, .int xnc])), (anq, .inr (1, [.long xna, .long xnb])), (af, .inr (0, [.ref afp, .ref afm, .ref afs, .ref aft, .ref afq, .int xfs, .int xba, .long xbe])), (afp, .inl (cJ, 25, .inr (.inl xpr))), (afm, .inl (cJ, 9, .inr (.inl xmx))), (afs, .inl (cJ, 3, .inr (.inl xsd))), (aft, .inl (cJ, 4, .inr (.inl xpt))), (afq, .inr (1, [.long xfa, .long xfb])), (au, .inr (2, [.ref auh, .ref auw, .int ((f_X6_sources xrd xpl xpc xdr xsc xtc xhd xwt).2.2.2.2.2.2.2.2.1), .int ((f_X6_sources xrd xpl xpc xdr xsc xtc xhd xwt).2.2.2.2.2.2.2.2.2.1)])), (auh, .inl (cI, 20, .inl ((f_X6_sources xrd xpl xpc xdr xsc xtc xhd xwt).2.2.2.2.2.2.2.2.2.2.1))), (auw, .inl (cI, 4, .inl ((f_X6_sources xrd xpl xpc xdr xsc xtc xhd xwt).2.2.2.2.2.2.2.2.2.2.2)))] ((f_X6_sources xrd xpl xpc xdr xsc xtc xhd xwt).1) := by
  generalize hr : f_X6_sources xrd xpl xpc xdr xsc xtc xhd xwt = r
  refine fr_entryL (by decide) rfl ?_
  intro p e s m args below meth c A Q H locs hQ C hret hlk w ls hl
  have hx := C.1
  have hb := C.2.1
  have hl : lv_has ls 1 [(0, .ref ax)] := hl
  have hr : ((fun (z8_1 : Int32 × Int32 × Int32 × Int32 × Int32 × (Nat → Int32)) => (if z8_1.1 < xpl then ((-1000004), xrd, xpl, z8_1.2.1, z8_1.2.2.1, z8_1.2.2.2.1, z8_1.2.2.2.2.1, z8_1.2.2.2.2.2, xsc, xtc, xhd, xwt) else ((fun (z25_3 : Int32 × Int32 × (Nat → Int32)) => (if z25_3.1 = 0 then ((-1000004), xrd, xpl, z8_1.2.1, z8_1.2.2.1, z8_1.2.2.2.1, z25_3.2.1, z25_3.2.2, xsc, xtc, xhd, xwt) else ((fun (z43_5 : Int32 × Int32 × (Nat → Int32) × (Nat → Int32)) => ((Int32.toInt64 z43_5.1), xrd + 1, f_X4_empty, z8_1.2.1, z8_1.2.2.1, z8_1.2.2.2.1, z25_3.2.1, z25_3.2.2, z43_5.1, z43_5.2.1, z43_5.2.2.1, z43_5.2.2.2)) (f_X2_become xhd xwt z8_1.2.1 z8_1.2.2.1 z25_3.2.2)))) (f_X5_finish z8_1.2.1 z8_1.2.2.1 z8_1.2.2.2.1 z8_1.2.2.2.2.1 z8_1.2.2.2.2.2)))) (f_X5_read xdr xpl xpc)) = r := hr
  refine lv_aload_n hx hb dX6_sources_0 rfl (lv_at hl 0 rfl) ?_
  refine fr_get C w fg_X6_19 0 rfl rfl dX6_sources_1 ?_
  refine lv_aload_n hx hb dX6_sources_4 rfl (lv_at hl 0 rfl) ?_
  refine fr_get C w fg_X6_12 0 rfl rfl dX6_sources_5 ?_
  obtain ⟨z8_1, hz8_1⟩ : ∃ y, (f_X5_read xdr xpl xpc) = y := ⟨_, rfl⟩
  have hcz8_1 := c_X5_read l D cI cJ ar ard ap apc xso xtr xwi xnu xdr xpl xpc (by assumption)
  rw [hz8_1] at hcz8_1
  have hr : (if z8_1.1 < xpl then ((-1000004), xrd, xpl, z8_1.2.1, z8_1.2.2.1, z8_1.2.2.2.1, z8_1.2.2.2.2.1, z8_1.2.2.2.2.2, xsc, xtc, xhd, xwt) else ((fun (z25_3 : Int32 × Int32 × (Nat → Int32)) => (if z25_3.1 = 0 then ((-1000004), xrd, xpl, z8_1.2.1, z8_1.2.2.1, z8_1.2.2.2.1, z25_3.2.1, z25_3.2.2, xsc, xtc, xhd, xwt) else ((fun (z43_5 : Int32 × Int32 × (Nat → Int32) × (Nat → Int32)) => ((Int32.toInt64 z43_5.1), xrd + 1, f_X4_empty, z8_1.2.1, z8_1.2.2.1, z8_1.2.2.2.1, z25_3.2.1, z25_3.2.2, z43_5.1, z43_5.2.1, z43_5.2.2.1, z43_5.2.2.2)) (f_X2_become xhd xwt z8_1.2.1 z8_1.2.2.1 z25_3.2.2)))) (f_X5_finish z8_1.2.1 z8_1.2.2.1 z8_1.2.2.2.1 z8_1.2.2.2.2.1 z8_1.2.2.2.2.2))) = r := by subst hz8_1; exact hr
  refine fr_callIV (As := [.ref ap]) (rest := []) C w kf_X5_read mw_6_13 (hcz8_1) ⟨Nat.le_of_ble_eq_true rfl, Nat.le_of_ble_eq_true rfl⟩ ⟨Nat.le_refl 0, Nat.le_refl 0⟩ [4, 5, 2, 3] rfl rfl rfl (ws' := [(ax, .inr (6, [.ref ap, .ref ar, .ref au, .ref an, .ref ato, .long xrd, .long xal])), (ato, .inr (1, [.long xta, .long xtb])), (ap, .inr (4, [.ref apc, .int xpl])), (apc, .inl (cI, 47, .inl xpc)), (ar, .inr (5, [.ref ard, .int z8_1.2.1, .int z8_1.2.2.1, .int z8_1.2.2.2.1, .int z8_1.2.2.2.2.1])), (ard, .inl (cI, 16, .inl z8_1.2.2.2.2.2)), (an, .inr (3, [.ref af, .ref anq, .int xns, .int xnc])), (anq, .inr (1, [.long xna, .long xnb])), (af, .inr (0, [.ref afp, .ref afm, .ref afs, .ref aft, .ref afq, .int xfs, .int xba, .long xbe])), (afp, .inl (cJ, 25, .inr (.inl xpr))), (afm, .inl (cJ, 9, .inr (.inl xmx))), (afs, .inl (cJ, 3, .inr (.inl xsd))), (aft, .inl (cJ, 4, .inr (.inl xpt))), (afq, .inr (1, [.long xfa, .long xfb])), (au, .inr (2, [.ref auh, .ref auw, .int xsc, .int xtc])), (auh, .inl (cI, 20, .inl xhd)), (auw, .inl (cI, 4, .inl xwt))]) rfl rfl rfl rfl hl.1 rfl (Nat.le_of_ble_eq_true rfl) dX6_sources_8 (fun H locs w => ?_)
  refine lv_aload_n hx hb dX6_sources_11 rfl (lv_at hl 0 rfl) ?_
  refine fr_get C w fg_X6_12 0 rfl rfl dX6_sources_12 ?_
  refine fr_get C w fg_X6_56 2 rfl rfl dX6_sources_15 ?_
  refine lv_icmp_lt (tgt := 31) hx hb dX6_sources_18 (by decide) (fun c18_2 => ?_) (fun c18_2 => ?_)
  · have hr := (if_pos c18_2).symm.trans hr
    refine lv_ldc2 hx hb C.2.2.2.1 (C.2.2.2.2.1 _ mw_9_7) dX6_sources_31 ?_
    subst hr hQ
    exact fr_lret C hret hlk w rfl rfl dX6_sources_34
  · have hr := (if_neg c18_2).symm.trans hr
    refine lv_aload_n hx hb dX6_sources_21 rfl (lv_at hl 0 rfl) ?_
    refine fr_get C w fg_X6_19 0 rfl rfl dX6_sources_22 ?_
    obtain ⟨z25_3, hz25_3⟩ : ∃ y, (f_X5_finish z8_1.2.1 z8_1.2.2.1 z8_1.2.2.2.1 z8_1.2.2.2.2.1 z8_1.2.2.2.2.2) = y := ⟨_, rfl⟩
    have hcz25_3 := c_X5_finish l D cI cJ ar ard z8_1.2.1 z8_1.2.2.1 z8_1.2.2.2.1 z8_1.2.2.2.2.1 z8_1.2.2.2.2.2
    rw [hz25_3] at hcz25_3
    have hr : (if z25_3.1 = 0 then ((-1000004), xrd, xpl, z8_1.2.1, z8_1.2.2.1, z8_1.2.2.2.1, z25_3.2.1, z25_3.2.2, xsc, xtc, xhd, xwt) else ((fun (z43_5 : Int32 × Int32 × (Nat → Int32) × (Nat → Int32)) => ((Int32.toInt64 z43_5.1), xrd + 1, f_X4_empty, z8_1.2.1, z8_1.2.2.1, z8_1.2.2.2.1, z25_3.2.1, z25_3.2.2, z43_5.1, z43_5.2.1, z43_5.2.2.1, z43_5.2.2.2)) (f_X2_become xhd xwt z8_1.2.1 z8_1.2.2.1 z25_3.2.2))) = r := by subst hz25_3; exact hr
    refine fr_callIV (As := []) (rest := []) C w kf_X5_finish mw_9_10 (hcz25_3) ⟨Nat.le_of_ble_eq_true rfl, Nat.le_of_ble_eq_true rfl⟩ ⟨Nat.le_refl 0, Nat.le_refl 0⟩ [4, 5] rfl rfl rfl (ws' := [(ax, .inr (6, [.ref ap, .ref ar, .ref au, .ref an, .ref ato, .long xrd, .long xal])), (ato, .inr (1, [.long xta, .long xtb])), (ap, .inr (4, [.ref apc, .int xpl])), (apc, .inl (cI, 47, .inl xpc)), (ar, .inr (5, [.ref ard, .int z8_1.2.1, .int z8_1.2.2.1, .int z8_1.2.2.2.1, .int z25_3.2.1])), (ard, .inl (cI, 16, .inl z25_3.2.2)), (an, .inr (3, [.ref af, .ref anq, .int xns, .int xnc])), (anq, .inr (1, [.long xna, .long xnb])), (af, .inr (0, [.ref afp, .ref afm, .ref afs, .ref aft, .ref afq, .int xfs, .int xba, .long xbe])), (afp, .inl (cJ, 25, .inr (.inl xpr))), (afm, .inl (cJ, 9, .inr (.inl xmx))), (afs, .inl (cJ, 3, .inr (.inl xsd))), (aft, .inl (cJ, 4, .inr (.inl xpt))), (afq, .inr (1, [.long xfa, .long xfb])), (au, .inr (2, [.ref auh, .ref auw, .int xsc, .int xtc])), (auh, .inl (cI, 20, .inl xhd)), (auw, .inl (cI, 4, .inl xwt))]) rfl rfl rfl rfl hl.1 rfl (Nat.le_of_ble_eq_true rfl) dX6_sources_25 (fun H locs w => ?_)
    refine lv_if_ne (tgt := 35) hx hb dX6_sources_28 (by decide) (fun c28_4 => ?_) (fun c28_4 => ?_)
    · have hr := (if_neg c28_4).symm.trans hr
      refine lv_aload_n hx hb dX6_sources_35 rfl (lv_at hl 0 rfl) ?_
      refine fr_get C w fg_X6_26 0 rfl rfl dX6_sources_36 ?_
      refine lv_aload_n hx hb dX6_sources_39 rfl (lv_at hl 0 rfl) ?_
      refine fr_get C w fg_X6_19 0 rfl rfl dX6_sources_40 ?_
      obtain ⟨z43_5, hz43_5⟩ : ∃ y, (f_X2_become xhd xwt z8_1.2.1 z8_1.2.2.1 z25_3.2.2) = y := ⟨_, rfl⟩
      have hcz43_5 := c_X2_become l D cI cJ au auh auw ar ard xsc xtc xhd xwt z8_1.2.1 z8_1.2.2.1 z8_1.2.2.2.1 z25_3.2.1 z25_3.2.2
      rw [hz43_5] at hcz43_5
      have hr : ((Int32.toInt64 z43_5.1), xrd + 1, f_X4_empty, z8_1.2.1, z8_1.2.2.1, z8_1.2.2.2.1, z25_3.2.1, z25_3.2.2, z43_5.1, z43_5.2.1, z43_5.2.2.1, z43_5.2.2.2) = r := by subst hz43_5; exact hr
      refine fr_callVV (As := [.ref ar]) (rest := []) C w kf_X2_become mw_9_14 (hcz43_5) ⟨Nat.le_of_ble_eq_true rfl, Nat.le_of_ble_eq_true rfl⟩ ⟨Nat.le_refl 0, Nat.le_refl 0⟩ [14, 15, 16, 4, 5] rfl rfl rfl (ws' := [(ax, .inr (6, [.ref ap, .ref ar, .ref au, .ref an, .ref ato, .long xrd, .long xal])), (ato, .inr (1, [.long xta, .long xtb])), (ap, .inr (4, [.ref apc, .int xpl])), (apc, .inl (cI, 47, .inl xpc)), (ar, .inr (5, [.ref ard, .int z8_1.2.1, .int z8_1.2.2.1, .int z8_1.2.2.2.1, .int z25_3.2.1])), (ard, .inl (cI, 16, .inl z25_3.2.2)), (an, .inr (3, [.ref af, .ref anq, .int xns, .int xnc])), (anq, .inr (1, [.long xna, .long xnb])), (af, .inr (0, [.ref afp, .ref afm, .ref afs, .ref aft, .ref afq, .int xfs, .int xba, .long xbe])), (afp, .inl (cJ, 25, .inr (.inl xpr))), (afm, .inl (cJ, 9, .inr (.inl xmx))), (afs, .inl (cJ, 3, .inr (.inl xsd))), (aft, .inl (cJ, 4, .inr (.inl xpt))), (afq, .inr (1, [.long xfa, .long xfb])), (au, .inr (2, [.ref auh, .ref auw, .int z43_5.1, .int z43_5.2.1])), (auh, .inl (cI, 20, .inl z43_5.2.2.1)), (auw, .inl (cI, 4, .inl z43_5.2.2.2))]) rfl rfl rfl rfl hl.1 rfl (Nat.le_of_ble_eq_true rfl) dX6_sources_43 (fun H locs w => ?_)
      refine lv_aload_n hx hb dX6_sources_46 rfl (lv_at hl 0 rfl) ?_
      refine fr_get C w fg_X6_12 0 rfl rfl dX6_sources_47 ?_
      refine fr_callVV (As := []) (rest := []) C w kf_X4_empty mw_6_1 (c_X4_empty l D cI cJ ap apc xpl xpc) ⟨Nat.le_of_ble_eq_true rfl, Nat.le_of_ble_eq_true rfl⟩ ⟨Nat.le_refl 0, Nat.le_refl 0⟩ [2, 3] rfl rfl rfl (ws' := [(ax, .inr (6, [.ref ap, .ref ar, .ref au, .ref an, .ref ato, .long xrd, .long xal])), (ato, .inr (1, [.long xta, .long xtb])), (ap, .inr (4, [.ref apc, .int f_X4_empty])), (apc, .inl (cI, 47, .inl xpc)), (ar, .inr (5, [.ref ard, .int z8_1.2.1, .int z8_1.2.2.1, .int z8_1.2.2.2.1, .int z25_3.2.1])), (ard, .inl (cI, 16, .inl z25_3.2.2)), (an, .inr (3, [.ref af, .ref anq, .int xns, .int xnc])), (anq, .inr (1, [.long xna, .long xnb])), (af, .inr (0, [.ref afp, .ref afm, .ref afs, .ref aft, .ref afq, .int xfs, .int xba, .long xbe])), (afp, .inl (cJ, 25, .inr (.inl xpr))), (afm, .inl (cJ, 9, .inr (.inl xmx))), (afs, .inl (cJ, 3, .inr (.inl xsd))), (aft, .inl (cJ, 4, .inr (.inl xpt))), (afq, .inr (1, [.long xfa, .long xfb])), (au, .inr (2, [.ref auh, .ref auw, .int z43_5.1, .int z43_5.2.1])), (auh, .inl (cI, 20, .inl z43_5.2.2.1)), (auw, .inl (cI, 4, .inl z43_5.2.2.2))]) rfl rfl rfl rfl hl.1 rfl (Nat.le_of_ble_eq_true rfl) dX6_sources_50 (fun H locs w => ?_)
      refine lv_aload_n hx hb dX6_sources_53 rfl (lv_at hl 0 rfl) ?_
      refine lv_dup hx hb dX6_sources_54 rfl ?_
      refine fr_get C w fg_X6_76 0 rfl rfl dX6_sources_55 ?_
      refine lv_lconst (v := 1) hx hb dX6_sources_58 (by decide) ?_
      refine lv_ladd hx hb dX6_sources_59 ?_
      refine fr_put C w fp_X6_76 0 rfl rfl rfl rfl (ws' := [(ax, .inr (6, [.ref ap, .ref ar, .ref au, .ref an, .ref ato, .long (xrd + 1), .long xal])), (ato, .inr (1, [.long xta, .long xtb])), (ap, .inr (4, [.ref apc, .int f_X4_empty])), (apc, .inl (cI, 47, .inl xpc)), (ar, .inr (5, [.ref ard, .int z8_1.2.1, .int z8_1.2.2.1, .int z8_1.2.2.2.1, .int z25_3.2.1])), (ard, .inl (cI, 16, .inl z25_3.2.2)), (an, .inr (3, [.ref af, .ref anq, .int xns, .int xnc])), (anq, .inr (1, [.long xna, .long xnb])), (af, .inr (0, [.ref afp, .ref afm, .ref afs, .ref aft, .ref afq, .int xfs, .int xba, .long xbe])), (afp, .inl (cJ, 25, .inr (.inl xpr))), (afm, .inl (cJ, 9, .inr (.inl xmx))), (afs, .inl (cJ, 3, .inr (.inl xsd))), (aft, .inl (cJ, 4, .inr (.inl xpt))), (afq, .inr (1, [.long xfa, .long xfb])), (au, .inr (2, [.ref auh, .ref auw, .int z43_5.1, .int z43_5.2.1])), (auh, .inl (cI, 20, .inl z43_5.2.2.1)), (auw, .inl (cI, 4, .inl z43_5.2.2.2))]) rfl dX6_sources_60 (fun H locs w => ?_)
      refine lv_aload_n hx hb dX6_sources_63 rfl (lv_at hl 0 rfl) ?_
      refine fr_get C w fg_X6_26 0 rfl rfl dX6_sources_64 ?_
      refine fr_get C w fg_X6_80 14 rfl rfl dX6_sources_67 ?_
      refine lv_i2l (v := (Int32.toInt64 z43_5.1)) hx hb dX6_sources_70 rfl ?_
      subst hr hQ
      exact fr_lret C hret hlk w rfl rfl dX6_sources_71
    · have hr := (if_pos c28_4).symm.trans hr
      refine lv_ldc2 hx hb C.2.2.2.1 (C.2.2.2.2.1 _ mw_9_7) dX6_sources_31 ?_
      subst hr hQ
      exact fr_lret C hret hlk w rfl rfl dX6_sources_34
def f_X6_putHeld (xal : Int64) (xhd : Nat → Int32) (q1 : Int32) (q2 : Int32) (q3 : Int32) : Int64 × Int64 × (Nat → Int32) := ((Int32.toInt64 (f_X2_heldOf xhd q1 q2)), xal + 1, (f_X2_putHeld xhd q1 q2 q3))
set_option maxRecDepth 100000 in
set_option maxHeartbeats 4000000 in
theorem c_X6_putHeld (l : Launch) (D : va_G) (cI cJ : ClassId) (ax ap ar au an ato apc ard af anq afp afm afs aft afq auh auw : Nat) (xrd : Int64) (xal : Int64) (xta : Int64) (xtb : Int64) (xpl : Int32) (xpc : Nat → Int32) (xso : Int32) (xtr : Int32) (xwi : Int32) (xnu : Int32) (xdr : Nat → Int32) (xns : Int32) (xnc : Int32) (xna : Int64) (xnb : Int64) (xfs : Int32) (xba : Int32) (xbe : Int64) (xpr : Nat → Int64) (xmx : Nat → Int64) (xsd : Nat → Int64) (xpt : Nat → Int64) (xfa : Int64) (xfb : Int64) (xsc : Int32) (xtc : Int32) (xhd : Nat → Int32) (xwt : Nat → Int32) (q1 : Int32) (q2 : Int32) (q3 : Int32) : CL l yX6_putHeld cX6_putHeld 6 2 D cI cJ [.ref ax, .int q1, .int q2, .int q3] [(ax, .inr (6, [.ref ap, .ref ar, .ref au, .ref an, .ref ato, .long xrd, .long xal])), (ato, .inr (1, [.long xta, .long xtb])), (ap, .inr (4, [.ref apc, .int xpl])), (apc, .inl (cI, 47, .inl xpc)), (ar, .inr (5, [.ref ard, .int xso, .int xtr, .int xwi, .int xnu])), (ard, .inl (cI, 16, .inl xdr)), (an, .inr (3, [.ref af, .ref anq, .int xns, .int xnc])), (anq, .inr (1, [.long xna, .long xnb])), (af, .inr (0, [.ref afp, .ref afm, .ref afs, .ref aft, .ref afq, .int xfs, .int xba, .long xbe])), (afp, .inl (cJ, 25, .inr (.inl xpr))), (afm, .inl (cJ, 9, .inr (.inl xmx))), (afs, .inl (cJ, 3, .inr (.inl xsd))), (aft, .inl (cJ, 4, .inr (.inl xpt))), (afq, .inr (1, [.long xfa, .long xfb])), (au, .inr (2, [.ref auh, .ref auw, .int xsc, .int xtc])), (auh, .inl (cI, 20, .inl xhd)), (auw, .inl (cI, 4, .inl xwt))] [(ax, .inr (6, [.ref ap, .ref ar, .ref au, .ref an, .ref ato, .long xrd, .long ((f_X6_putHeld xal xhd q1 q2 q3).2.1)])), (ato, .inr (1, [.long xta, .long xtb])), (ap, .inr (4, [.ref apc, .int xpl])), (apc, .inl (cI, 47, .inl xpc)), (ar, .inr (5, [.ref ard, .int xso, .int xtr, .int xwi, .int xnu])), (ard, .inl (cI, 16, .inl xdr)), (an, .inr (3, [.ref af, .ref anq, .int xns, .int xnc])), (anq, .inr (1, [.long xna, .long xnb])), (af, .inr (0, [.ref afp, .ref afm, .ref afs, .ref aft, .ref afq, .int xfs, .int xba, .long xbe])), (afp, .inl (cJ, 25, .inr (.inl xpr))), (afm, .inl (cJ, 9, .inr (.inl xmx))), (afs, .inl (cJ, 3, .inr (.inl xsd))), (aft, .inl (cJ, 4, .inr (.inl xpt))), (afq, .inr (1, [.long xfa, .long xfb])), (au, .inr (2, [.ref auh, .ref auw, .int xsc, .int xtc])), (auh, .inl (cI, 20, .inl ((f_X6_putHeld xal xhd q1 q2 q3).2.2))), (auw, .inl (cI, 4, .inl xwt))] ((f_X6_putHeld xal xhd q1 q2 q3).1) := by
  generalize hr : f_X6_putHeld xal xhd q1 q2 q3 = r
  refine fr_entryL (by decide) rfl ?_
  intro p e s m args below meth c A Q H locs hQ C hret hlk w ls hl
  have hx := C.1
  have hb := C.2.1
  have hl : lv_has ls 6 [(0, .ref ax), (1, .int q1), (2, .int q2), (3, .int q3)] := hl
  have hr : ((Int32.toInt64 (f_X2_heldOf xhd q1 q2)), xal + 1, (f_X2_putHeld xhd q1 q2 q3)) = r := hr
  refine lv_aload_n hx hb dX6_putHeld_0 rfl (lv_at hl 0 rfl) ?_
  refine fr_get C w fg_X6_26 0 rfl rfl dX6_putHeld_1 ?_
  refine lv_iload_n hx hb dX6_putHeld_4 rfl (lv_at hl 1 rfl) ?_
  refine lv_iload_n hx hb dX6_putHeld_5 rfl (lv_at hl 2 rfl) ?_
  refine fr_callIV (As := [.int q1, .int q2]) (rest := []) C w kf_X2_heldOf mw_11_9 (c_X2_heldOf l D cI cJ au auh auw xsc xtc xhd xwt q1 q2) ⟨Nat.le_of_ble_eq_true rfl, Nat.le_of_ble_eq_true rfl⟩ ⟨Nat.le_refl 0, Nat.le_refl 0⟩ [14, 15, 16] rfl rfl rfl (ws' := [(ax, .inr (6, [.ref ap, .ref ar, .ref au, .ref an, .ref ato, .long xrd, .long xal])), (ato, .inr (1, [.long xta, .long xtb])), (ap, .inr (4, [.ref apc, .int xpl])), (apc, .inl (cI, 47, .inl xpc)), (ar, .inr (5, [.ref ard, .int xso, .int xtr, .int xwi, .int xnu])), (ard, .inl (cI, 16, .inl xdr)), (an, .inr (3, [.ref af, .ref anq, .int xns, .int xnc])), (anq, .inr (1, [.long xna, .long xnb])), (af, .inr (0, [.ref afp, .ref afm, .ref afs, .ref aft, .ref afq, .int xfs, .int xba, .long xbe])), (afp, .inl (cJ, 25, .inr (.inl xpr))), (afm, .inl (cJ, 9, .inr (.inl xmx))), (afs, .inl (cJ, 3, .inr (.inl xsd))), (aft, .inl (cJ, 4, .inr (.inl xpt))), (afq, .inr (1, [.long xfa, .long xfb])), (au, .inr (2, [.ref auh, .ref auw, .int xsc, .int xtc])), (auh, .inl (cI, 20, .inl xhd)), (auw, .inl (cI, 4, .inl xwt))]) rfl rfl rfl rfl hl.1 rfl (Nat.le_of_ble_eq_true rfl) dX6_putHeld_6 (fun H locs w => ?_)
  refine lv_i2l (v := (Int32.toInt64 (f_X2_heldOf xhd q1 q2))) hx hb dX6_putHeld_9 rfl ?_
  refine lv_lstore (lv' := [(4, .long (Int32.toInt64 (f_X2_heldOf xhd q1 q2))), (0, .ref ax), (1, .int q1), (2, .int q2), (3, .int q3)]) hx hb dX6_putHeld_10 hl (by decide) rfl (fun ls hl => ?_)
  refine lv_aload_n hx hb dX6_putHeld_12 rfl (lv_at hl 1 rfl) ?_
  refine fr_get C w fg_X6_26 0 rfl rfl dX6_putHeld_13 ?_
  refine lv_iload_n hx hb dX6_putHeld_16 rfl (lv_at hl 2 rfl) ?_
  refine lv_iload_n hx hb dX6_putHeld_17 rfl (lv_at hl 3 rfl) ?_
  refine lv_iload_n hx hb dX6_putHeld_18 rfl (lv_at hl 4 rfl) ?_
  refine fr_callVV (As := [.int q1, .int q2, .int q3]) (rest := []) C w kf_X2_putHeld mw_11_16 (c_X2_putHeld l D cI cJ au auh auw xsc xtc xhd xwt q1 q2 q3) ⟨Nat.le_of_ble_eq_true rfl, Nat.le_of_ble_eq_true rfl⟩ ⟨Nat.le_refl 0, Nat.le_refl 0⟩ [14, 15, 16] rfl rfl rfl (ws' := [(ax, .inr (6, [.ref ap, .ref ar, .ref au, .ref an, .ref ato, .long xrd, .long xal])), (ato, .inr (1, [.long xta, .long xtb])), (ap, .inr (4, [.ref apc, .int xpl])), (apc, .inl (cI, 47, .inl xpc)), (ar, .inr (5, [.ref ard, .int xso, .int xtr, .int xwi, .int xnu])), (ard, .inl (cI, 16, .inl xdr)), (an, .inr (3, [.ref af, .ref anq, .int xns, .int xnc])), (anq, .inr (1, [.long xna, .long xnb])), (af, .inr (0, [.ref afp, .ref afm, .ref afs, .ref aft, .ref afq, .int xfs, .int xba, .long xbe])), (afp, .inl (cJ, 25, .inr (.inl xpr))), (afm, .inl (cJ, 9, .inr (.inl xmx))), (afs, .inl (cJ, 3, .inr (.inl xsd))), (aft, .inl (cJ, 4, .inr (.inl xpt))), (afq, .inr (1, [.long xfa, .long xfb])), (au, .inr (2, [.ref auh, .ref auw, .int xsc, .int xtc])), (auh, .inl (cI, 20, .inl (f_X2_putHeld xhd q1 q2 q3))), (auw, .inl (cI, 4, .inl xwt))]) rfl rfl rfl rfl hl.1 rfl (Nat.le_of_ble_eq_true rfl) dX6_putHeld_19 (fun H locs w => ?_)
  refine lv_aload_n hx hb dX6_putHeld_22 rfl (lv_at hl 1 rfl) ?_
  refine lv_dup hx hb dX6_putHeld_23 rfl ?_
  refine fr_get C w fg_X6_104 0 rfl rfl dX6_putHeld_24 ?_
  refine lv_lconst (v := 1) hx hb dX6_putHeld_27 (by decide) ?_
  refine lv_ladd hx hb dX6_putHeld_28 ?_
  refine fr_put C w fp_X6_104 0 rfl rfl rfl rfl (ws' := [(ax, .inr (6, [.ref ap, .ref ar, .ref au, .ref an, .ref ato, .long xrd, .long (xal + 1)])), (ato, .inr (1, [.long xta, .long xtb])), (ap, .inr (4, [.ref apc, .int xpl])), (apc, .inl (cI, 47, .inl xpc)), (ar, .inr (5, [.ref ard, .int xso, .int xtr, .int xwi, .int xnu])), (ard, .inl (cI, 16, .inl xdr)), (an, .inr (3, [.ref af, .ref anq, .int xns, .int xnc])), (anq, .inr (1, [.long xna, .long xnb])), (af, .inr (0, [.ref afp, .ref afm, .ref afs, .ref aft, .ref afq, .int xfs, .int xba, .long xbe])), (afp, .inl (cJ, 25, .inr (.inl xpr))), (afm, .inl (cJ, 9, .inr (.inl xmx))), (afs, .inl (cJ, 3, .inr (.inl xsd))), (aft, .inl (cJ, 4, .inr (.inl xpt))), (afq, .inr (1, [.long xfa, .long xfb])), (au, .inr (2, [.ref auh, .ref auw, .int xsc, .int xtc])), (auh, .inl (cI, 20, .inl (f_X2_putHeld xhd q1 q2 q3))), (auw, .inl (cI, 4, .inl xwt))]) rfl dX6_putHeld_29 (fun H locs w => ?_)
  refine lv_lload hx hb dX6_putHeld_32 (lv_at hl 0 rfl) ?_
  subst hr hQ
  exact fr_lret C hret hlk w rfl rfl dX6_putHeld_34
def f_X6_set (xal : Int64) (xtc : Int32) (xhd : Nat → Int32) (xwt : Nat → Int32) (q1 : Int32) (q2 : Int32) (q3 : Int32) : Int64 × Int64 × (Nat → Int32) × (Nat → Int32) := (if (f_X2_isTracer xtc q1) = 0 then ((-1000002), xal, xhd, xwt) else (if q2 = 0 then (if (f_X6_isHeld q3) = 0 then ((-1000003), xal, xhd, xwt) else ((fun (z30_7 : Int64 × Int64 × (Nat → Int32)) => (z30_7.1, z30_7.2.1, z30_7.2.2, xwt)) (f_X6_putHeld xal xhd 4 q1 q3))) else (if q2 = 1 then (if q3 < 1 then ((-1000003), xal, xhd, xwt) else (if 5 < q3 then ((-1000003), xal, xhd, xwt) else ((Int32.toInt64 (f_X2_weightOf xwt q1)), xal + 1, xhd, (f_X2_putWeight xwt q1 q3)))) else ((-1000003), xal, xhd, xwt))))
set_option maxRecDepth 100000 in
set_option maxHeartbeats 4000000 in
theorem c_X6_set (l : Launch) (D : va_G) (cI cJ : ClassId) (ax ap ar au an ato apc ard af anq afp afm afs aft afq auh auw : Nat) (xrd : Int64) (xal : Int64) (xta : Int64) (xtb : Int64) (xpl : Int32) (xpc : Nat → Int32) (xso : Int32) (xtr : Int32) (xwi : Int32) (xnu : Int32) (xdr : Nat → Int32) (xns : Int32) (xnc : Int32) (xna : Int64) (xnb : Int64) (xfs : Int32) (xba : Int32) (xbe : Int64) (xpr : Nat → Int64) (xmx : Nat → Int64) (xsd : Nat → Int64) (xpt : Nat → Int64) (xfa : Int64) (xfb : Int64) (xsc : Int32) (xtc : Int32) (xhd : Nat → Int32) (xwt : Nat → Int32) (q1 : Int32) (q2 : Int32) (q3 : Int32) : CL l yX6_set cX6_set 6 3 D cI cJ [.ref ax, .int q1, .int q2, .int q3] [(ax, .inr (6, [.ref ap, .ref ar, .ref au, .ref an, .ref ato, .long xrd, .long xal])), (ato, .inr (1, [.long xta, .long xtb])), (ap, .inr (4, [.ref apc, .int xpl])), (apc, .inl (cI, 47, .inl xpc)), (ar, .inr (5, [.ref ard, .int xso, .int xtr, .int xwi, .int xnu])), (ard, .inl (cI, 16, .inl xdr)), (an, .inr (3, [.ref af, .ref anq, .int xns, .int xnc])), (anq, .inr (1, [.long xna, .long xnb])), (af, .inr (0, [.ref afp, .ref afm, .ref afs, .ref aft, .ref afq, .int xfs, .int xba, .long xbe])), (afp, .inl (cJ, 25, .inr (.inl xpr))), (afm, .inl (cJ, 9, .inr (.inl xmx))), (afs, .inl (cJ, 3, .inr (.inl xsd))), (aft, .inl (cJ, 4, .inr (.inl xpt))), (afq, .inr (1, [.long xfa, .long xfb])), (au, .inr (2, [.ref auh, .ref auw, .int xsc, .int xtc])), (auh, .inl (cI, 20, .inl xhd)), (auw, .inl (cI, 4, .inl xwt))] [(ax, .inr (6, [.ref ap, .ref ar, .ref au, .ref an, .ref ato, .long xrd, .long ((f_X6_set xal xtc xhd xwt q1 q2 q3).2.1)])), (ato, .inr (1, [.long xta, .long xtb])), (ap, .inr (4, [.ref apc, .int xpl])), (apc, .inl (cI, 47, .inl xpc)), (ar, .inr (5, [.ref ard, .int xso, .int xtr, .int xwi, .int xnu])), (ard, .inl (cI, 16, .inl xdr)), (an, .inr (3, [.ref af, .ref anq, .int xns, .int xnc])), (anq, .inr (1, [.long xna, .long xnb])), (af, .inr (0, [.ref afp, .ref afm, .ref afs, .ref aft, .ref afq, .int xfs, .int xba, .long xbe])), (afp, .inl (cJ, 25, .inr (.inl xpr))), (afm, .inl (cJ, 9, .inr (.inl xmx))), (afs, .inl (cJ, 3, .inr (.inl xsd))), (aft, .inl (cJ, 4, .inr (.inl xpt))), (afq, .inr (1, [.long xfa, .long xfb])), (au, .inr (2, [.ref auh, .ref auw, .int xsc, .int xtc])), (auh, .inl (cI, 20, .inl ((f_X6_set xal xtc xhd xwt q1 q2 q3).2.2.1))), (auw, .inl (cI, 4, .inl ((f_X6_set xal xtc xhd xwt q1 q2 q3).2.2.2)))] ((f_X6_set xal xtc xhd xwt q1 q2 q3).1) := by
  generalize hr : f_X6_set xal xtc xhd xwt q1 q2 q3 = r
  refine fr_entryL (by decide) rfl ?_
  intro p e s m args below meth c A Q H locs hQ C hret hlk w ls hl
  have hx := C.1
  have hb := C.2.1
  have hl : lv_has ls 6 [(0, .ref ax), (1, .int q1), (2, .int q2), (3, .int q3)] := hl
  have hr : (if (f_X2_isTracer xtc q1) = 0 then ((-1000002), xal, xhd, xwt) else (if q2 = 0 then (if (f_X6_isHeld q3) = 0 then ((-1000003), xal, xhd, xwt) else ((fun (z30_7 : Int64 × Int64 × (Nat → Int32)) => (z30_7.1, z30_7.2.1, z30_7.2.2, xwt)) (f_X6_putHeld xal xhd 4 q1 q3))) else (if q2 = 1 then (if q3 < 1 then ((-1000003), xal, xhd, xwt) else (if 5 < q3 then ((-1000003), xal, xhd, xwt) else ((Int32.toInt64 (f_X2_weightOf xwt q1)), xal + 1, xhd, (f_X2_putWeight xwt q1 q3)))) else ((-1000003), xal, xhd, xwt)))) = r := hr
  refine lv_aload_n hx hb dX6_set_0 rfl (lv_at hl 0 rfl) ?_
  refine fr_get C w fg_X6_26 0 rfl rfl dX6_set_1 ?_
  refine lv_iload_n hx hb dX6_set_4 rfl (lv_at hl 1 rfl) ?_
  refine fr_callIV (As := [.int q1]) (rest := []) C w kf_X2_isTracer mw_10_22 (c_X2_isTracer l D cI cJ au auh auw xsc xtc xhd xwt q1) ⟨Nat.le_of_ble_eq_true rfl, Nat.le_of_ble_eq_true rfl⟩ ⟨Nat.le_refl 0, Nat.le_refl 0⟩ [14, 15, 16] rfl rfl rfl (ws' := [(ax, .inr (6, [.ref ap, .ref ar, .ref au, .ref an, .ref ato, .long xrd, .long xal])), (ato, .inr (1, [.long xta, .long xtb])), (ap, .inr (4, [.ref apc, .int xpl])), (apc, .inl (cI, 47, .inl xpc)), (ar, .inr (5, [.ref ard, .int xso, .int xtr, .int xwi, .int xnu])), (ard, .inl (cI, 16, .inl xdr)), (an, .inr (3, [.ref af, .ref anq, .int xns, .int xnc])), (anq, .inr (1, [.long xna, .long xnb])), (af, .inr (0, [.ref afp, .ref afm, .ref afs, .ref aft, .ref afq, .int xfs, .int xba, .long xbe])), (afp, .inl (cJ, 25, .inr (.inl xpr))), (afm, .inl (cJ, 9, .inr (.inl xmx))), (afs, .inl (cJ, 3, .inr (.inl xsd))), (aft, .inl (cJ, 4, .inr (.inl xpt))), (afq, .inr (1, [.long xfa, .long xfb])), (au, .inr (2, [.ref auh, .ref auw, .int xsc, .int xtc])), (auh, .inl (cI, 20, .inl xhd)), (auw, .inl (cI, 4, .inl xwt))]) rfl rfl rfl rfl hl.1 rfl (Nat.le_of_ble_eq_true rfl) dX6_set_5 (fun H locs w => ?_)
  refine lv_if_ne (tgt := 15) hx hb dX6_set_8 (by decide) (fun c8_1 => ?_) (fun c8_1 => ?_)
  · have hr := (if_neg c8_1).symm.trans hr
    refine lv_iload_n hx hb dX6_set_15 rfl (lv_at hl 2 rfl) ?_
    refine lv_if_ne (tgt := 40) hx hb dX6_set_16 (by decide) (fun c16_2 => ?_) (fun c16_2 => ?_)
    · have hr := (if_neg c16_2).symm.trans hr
      refine lv_iload_n hx hb dX6_set_40 rfl (lv_at hl 2 rfl) ?_
      refine lv_iconst (v := 1) hx hb dX6_set_41 (by decide) ?_
      refine lv_icmp_ne (tgt := 88) hx hb dX6_set_42 (by decide) (fun c42_3 => ?_) (fun c42_3 => ?_)
      · have hr := (if_neg c42_3).symm.trans hr
        refine lv_ldc2 hx hb C.2.2.2.1 (C.2.2.2.2.1 _ mw_4_23) dX6_set_88 ?_
        subst hr hQ
        exact fr_lret C hret hlk w rfl rfl dX6_set_91
      · have hr := (if_pos c42_3).symm.trans hr
        refine lv_iload_n hx hb dX6_set_45 rfl (lv_at hl 3 rfl) ?_
        refine lv_iconst (v := 1) hx hb dX6_set_46 (by decide) ?_
        refine lv_icmp_lt (tgt := 88) hx hb dX6_set_47 (by decide) (fun c47_4 => ?_) (fun c47_4 => ?_)
        · have hr := (if_pos c47_4).symm.trans hr
          refine lv_ldc2 hx hb C.2.2.2.1 (C.2.2.2.2.1 _ mw_4_23) dX6_set_88 ?_
          subst hr hQ
          exact fr_lret C hret hlk w rfl rfl dX6_set_91
        · have hr := (if_neg c47_4).symm.trans hr
          refine lv_iload_n hx hb dX6_set_50 rfl (lv_at hl 3 rfl) ?_
          refine lv_iconst (v := 5) hx hb dX6_set_51 (by decide) ?_
          refine lv_icmp_gt (tgt := 88) hx hb dX6_set_52 (by decide) (fun c52_5 => ?_) (fun c52_5 => ?_)
          · have hr := (if_pos c52_5).symm.trans hr
            refine lv_ldc2 hx hb C.2.2.2.1 (C.2.2.2.2.1 _ mw_4_23) dX6_set_88 ?_
            subst hr hQ
            exact fr_lret C hret hlk w rfl rfl dX6_set_91
          · have hr := (if_neg c52_5).symm.trans hr
            refine lv_aload_n hx hb dX6_set_55 rfl (lv_at hl 0 rfl) ?_
            refine fr_get C w fg_X6_26 0 rfl rfl dX6_set_56 ?_
            refine lv_iload_n hx hb dX6_set_59 rfl (lv_at hl 1 rfl) ?_
            refine fr_callIV (As := [.int q1]) (rest := []) C w kf_X2_weightOf mw_11_20 (c_X2_weightOf l D cI cJ au auh auw xsc xtc xhd xwt q1) ⟨Nat.le_of_ble_eq_true rfl, Nat.le_of_ble_eq_true rfl⟩ ⟨Nat.le_refl 0, Nat.le_refl 0⟩ [14, 15, 16] rfl rfl rfl (ws' := [(ax, .inr (6, [.ref ap, .ref ar, .ref au, .ref an, .ref ato, .long xrd, .long xal])), (ato, .inr (1, [.long xta, .long xtb])), (ap, .inr (4, [.ref apc, .int xpl])), (apc, .inl (cI, 47, .inl xpc)), (ar, .inr (5, [.ref ard, .int xso, .int xtr, .int xwi, .int xnu])), (ard, .inl (cI, 16, .inl xdr)), (an, .inr (3, [.ref af, .ref anq, .int xns, .int xnc])), (anq, .inr (1, [.long xna, .long xnb])), (af, .inr (0, [.ref afp, .ref afm, .ref afs, .ref aft, .ref afq, .int xfs, .int xba, .long xbe])), (afp, .inl (cJ, 25, .inr (.inl xpr))), (afm, .inl (cJ, 9, .inr (.inl xmx))), (afs, .inl (cJ, 3, .inr (.inl xsd))), (aft, .inl (cJ, 4, .inr (.inl xpt))), (afq, .inr (1, [.long xfa, .long xfb])), (au, .inr (2, [.ref auh, .ref auw, .int xsc, .int xtc])), (auh, .inl (cI, 20, .inl xhd)), (auw, .inl (cI, 4, .inl xwt))]) rfl rfl rfl rfl hl.1 rfl (Nat.le_of_ble_eq_true rfl) dX6_set_60 (fun H locs w => ?_)
            refine lv_i2l (v := (Int32.toInt64 (f_X2_weightOf xwt q1))) hx hb dX6_set_63 rfl ?_
            refine lv_lstore (lv' := [(4, .long (Int32.toInt64 (f_X2_weightOf xwt q1))), (0, .ref ax), (1, .int q1), (2, .int q2), (3, .int q3)]) hx hb dX6_set_64 hl (by decide) rfl (fun ls hl => ?_)
            refine lv_aload_n hx hb dX6_set_66 rfl (lv_at hl 1 rfl) ?_
            refine fr_get C w fg_X6_26 0 rfl rfl dX6_set_67 ?_
            refine lv_iload_n hx hb dX6_set_70 rfl (lv_at hl 2 rfl) ?_
            refine lv_iload_n hx hb dX6_set_71 rfl (lv_at hl 4 rfl) ?_
            refine fr_callVV (As := [.int q1, .int q3]) (rest := []) C w kf_X2_putWeight mw_12_0 (c_X2_putWeight l D cI cJ au auh auw xsc xtc xhd xwt q1 q3) ⟨Nat.le_of_ble_eq_true rfl, Nat.le_of_ble_eq_true rfl⟩ ⟨Nat.le_refl 0, Nat.le_refl 0⟩ [14, 15, 16] rfl rfl rfl (ws' := [(ax, .inr (6, [.ref ap, .ref ar, .ref au, .ref an, .ref ato, .long xrd, .long xal])), (ato, .inr (1, [.long xta, .long xtb])), (ap, .inr (4, [.ref apc, .int xpl])), (apc, .inl (cI, 47, .inl xpc)), (ar, .inr (5, [.ref ard, .int xso, .int xtr, .int xwi, .int xnu])), (ard, .inl (cI, 16, .inl xdr)), (an, .inr (3, [.ref af, .ref anq, .int xns, .int xnc])), (anq, .inr (1, [.long xna, .long xnb])), (af, .inr (0, [.ref afp, .ref afm, .ref afs, .ref aft, .ref afq, .int xfs, .int xba, .long xbe])), (afp, .inl (cJ, 25, .inr (.inl xpr))), (afm, .inl (cJ, 9, .inr (.inl xmx))), (afs, .inl (cJ, 3, .inr (.inl xsd))), (aft, .inl (cJ, 4, .inr (.inl xpt))), (afq, .inr (1, [.long xfa, .long xfb])), (au, .inr (2, [.ref auh, .ref auw, .int xsc, .int xtc])), (auh, .inl (cI, 20, .inl xhd)), (auw, .inl (cI, 4, .inl (f_X2_putWeight xwt q1 q3)))]) rfl rfl rfl rfl hl.1 rfl (Nat.le_of_ble_eq_true rfl) dX6_set_72 (fun H locs w => ?_)
            refine lv_aload_n hx hb dX6_set_75 rfl (lv_at hl 1 rfl) ?_
            refine lv_dup hx hb dX6_set_76 rfl ?_
            refine fr_get C w fg_X6_104 0 rfl rfl dX6_set_77 ?_
            refine lv_lconst (v := 1) hx hb dX6_set_80 (by decide) ?_
            refine lv_ladd hx hb dX6_set_81 ?_
            refine fr_put C w fp_X6_104 0 rfl rfl rfl rfl (ws' := [(ax, .inr (6, [.ref ap, .ref ar, .ref au, .ref an, .ref ato, .long xrd, .long (xal + 1)])), (ato, .inr (1, [.long xta, .long xtb])), (ap, .inr (4, [.ref apc, .int xpl])), (apc, .inl (cI, 47, .inl xpc)), (ar, .inr (5, [.ref ard, .int xso, .int xtr, .int xwi, .int xnu])), (ard, .inl (cI, 16, .inl xdr)), (an, .inr (3, [.ref af, .ref anq, .int xns, .int xnc])), (anq, .inr (1, [.long xna, .long xnb])), (af, .inr (0, [.ref afp, .ref afm, .ref afs, .ref aft, .ref afq, .int xfs, .int xba, .long xbe])), (afp, .inl (cJ, 25, .inr (.inl xpr))), (afm, .inl (cJ, 9, .inr (.inl xmx))), (afs, .inl (cJ, 3, .inr (.inl xsd))), (aft, .inl (cJ, 4, .inr (.inl xpt))), (afq, .inr (1, [.long xfa, .long xfb])), (au, .inr (2, [.ref auh, .ref auw, .int xsc, .int xtc])), (auh, .inl (cI, 20, .inl xhd)), (auw, .inl (cI, 4, .inl (f_X2_putWeight xwt q1 q3)))]) rfl dX6_set_82 (fun H locs w => ?_)
            refine lv_lload hx hb dX6_set_85 (lv_at hl 0 rfl) ?_
            subst hr hQ
            exact fr_lret C hret hlk w rfl rfl dX6_set_87
    · have hr := (if_pos c16_2).symm.trans hr
      refine lv_iload_n hx hb dX6_set_19 rfl (lv_at hl 3 rfl) ?_
      refine fr_callIS (As := [.int q3]) (rest := []) C w kf_X6_isHeld mw_11_2 (c_X6_isHeld l D cI cJ q3) ⟨Nat.le_of_ble_eq_true rfl, Nat.le_of_ble_eq_true rfl⟩ ⟨Nat.le_refl 0, Nat.le_refl 0⟩ [] rfl rfl rfl (ws' := [(ax, .inr (6, [.ref ap, .ref ar, .ref au, .ref an, .ref ato, .long xrd, .long xal])), (ato, .inr (1, [.long xta, .long xtb])), (ap, .inr (4, [.ref apc, .int xpl])), (apc, .inl (cI, 47, .inl xpc)), (ar, .inr (5, [.ref ard, .int xso, .int xtr, .int xwi, .int xnu])), (ard, .inl (cI, 16, .inl xdr)), (an, .inr (3, [.ref af, .ref anq, .int xns, .int xnc])), (anq, .inr (1, [.long xna, .long xnb])), (af, .inr (0, [.ref afp, .ref afm, .ref afs, .ref aft, .ref afq, .int xfs, .int xba, .long xbe])), (afp, .inl (cJ, 25, .inr (.inl xpr))), (afm, .inl (cJ, 9, .inr (.inl xmx))), (afs, .inl (cJ, 3, .inr (.inl xsd))), (aft, .inl (cJ, 4, .inr (.inl xpt))), (afq, .inr (1, [.long xfa, .long xfb])), (au, .inr (2, [.ref auh, .ref auw, .int xsc, .int xtc])), (auh, .inl (cI, 20, .inl xhd)), (auw, .inl (cI, 4, .inl xwt))]) rfl rfl hl.1 rfl (Nat.le_of_ble_eq_true rfl) dX6_set_20 (fun H locs w => ?_)
      refine lv_if_eq (tgt := 36) hx hb dX6_set_23 (by decide) (fun c23_6 => ?_) (fun c23_6 => ?_)
      · have hr := (if_pos c23_6).symm.trans hr
        refine lv_ldc2 hx hb C.2.2.2.1 (C.2.2.2.2.1 _ mw_4_23) dX6_set_36 ?_
        subst hr hQ
        exact fr_lret C hret hlk w rfl rfl dX6_set_39
      · have hr := (if_neg c23_6).symm.trans hr
        refine lv_aload_n hx hb dX6_set_26 rfl (lv_at hl 0 rfl) ?_
        refine lv_iconst (v := 4) hx hb dX6_set_27 (by decide) ?_
        refine lv_iload_n hx hb dX6_set_28 rfl (lv_at hl 1 rfl) ?_
        refine lv_iload_n hx hb dX6_set_29 rfl (lv_at hl 3 rfl) ?_
        obtain ⟨z30_7, hz30_7⟩ : ∃ y, (f_X6_putHeld xal xhd 4 q1 q3) = y := ⟨_, rfl⟩
        have hcz30_7 := c_X6_putHeld l D cI cJ ax ap ar au an ato apc ard af anq afp afm afs aft afq auh auw xrd xal xta xtb xpl xpc xso xtr xwi xnu xdr xns xnc xna xnb xfs xba xbe xpr xmx xsd xpt xfa xfb xsc xtc xhd xwt 4 q1 q3
        rw [hz30_7] at hcz30_7
        have hr : (z30_7.1, z30_7.2.1, z30_7.2.2, xwt) = r := by subst hz30_7; exact hr
        refine fr_callLV (As := [.int 4, .int q1, .int q3]) (rest := []) C w kf_X6_putHeld mw_11_5 (hcz30_7) ⟨Nat.le_of_ble_eq_true rfl, Nat.le_of_ble_eq_true rfl⟩ ⟨Nat.le_refl 0, Nat.le_refl 0⟩ [0, 1, 2, 3, 4, 5, 6, 7, 8, 9, 10, 11, 12, 13, 14, 15, 16] rfl rfl rfl (ws' := [(ax, .inr (6, [.ref ap, .ref ar, .ref au, .ref an, .ref ato, .long xrd, .long z30_7.2.1])), (ato, .inr (1, [.long xta, .long xtb])), (ap, .inr (4, [.ref apc, .int xpl])), (apc, .inl (cI, 47, .inl xpc)), (ar, .inr (5, [.ref ard, .int xso, .int xtr, .int xwi, .int xnu])), (ard, .inl (cI, 16, .inl xdr)), (an, .inr (3, [.ref af, .ref anq, .int xns, .int xnc])), (anq, .inr (1, [.long xna, .long xnb])), (af, .inr (0, [.ref afp, .ref afm, .ref afs, .ref aft, .ref afq, .int xfs, .int xba, .long xbe])), (afp, .inl (cJ, 25, .inr (.inl xpr))), (afm, .inl (cJ, 9, .inr (.inl xmx))), (afs, .inl (cJ, 3, .inr (.inl xsd))), (aft, .inl (cJ, 4, .inr (.inl xpt))), (afq, .inr (1, [.long xfa, .long xfb])), (au, .inr (2, [.ref auh, .ref auw, .int xsc, .int xtc])), (auh, .inl (cI, 20, .inl z30_7.2.2)), (auw, .inl (cI, 4, .inl xwt))]) rfl rfl rfl rfl hl.1 rfl (Nat.le_of_ble_eq_true rfl) dX6_set_30 (fun H locs w => ?_)
        refine lv_goto (tgt := 39) hx hb dX6_set_33 (by decide) ?_
        subst hr hQ
        exact fr_lret C hret hlk w rfl rfl dX6_set_39
  · have hr := (if_pos c8_1).symm.trans hr
    refine lv_ldc2 hx hb C.2.2.2.1 (C.2.2.2.2.1 _ mw_10_20) dX6_set_11 ?_
    subst hr hQ
    exact fr_lret C hret hlk w rfl rfl dX6_set_14
def f_X6_alter (xal : Int64) (xsc : Int32) (xtc : Int32) (xhd : Nat → Int32) (q1 : Int32) (q2 : Int32) (q3 : Int32) : Int64 × Int64 × (Nat → Int32) := (if (f_X2_isSource xsc q1) = 0 then ((-1000002), xal, xhd) else (if (f_X2_isTracer xtc q2) = 0 then ((-1000002), xal, xhd) else (if (f_X6_isHeld q3) = 0 then ((-1000003), xal, xhd) else ((fun (z37_4 : Int64 × Int64 × (Nat → Int32)) => (z37_4.1, z37_4.2.1, z37_4.2.2)) (f_X6_putHeld xal xhd q1 q2 q3)))))
set_option maxRecDepth 100000 in
set_option maxHeartbeats 4000000 in
theorem c_X6_alter (l : Launch) (D : va_G) (cI cJ : ClassId) (ax ap ar au an ato apc ard af anq afp afm afs aft afq auh auw : Nat) (xrd : Int64) (xal : Int64) (xta : Int64) (xtb : Int64) (xpl : Int32) (xpc : Nat → Int32) (xso : Int32) (xtr : Int32) (xwi : Int32) (xnu : Int32) (xdr : Nat → Int32) (xns : Int32) (xnc : Int32) (xna : Int64) (xnb : Int64) (xfs : Int32) (xba : Int32) (xbe : Int64) (xpr : Nat → Int64) (xmx : Nat → Int64) (xsd : Nat → Int64) (xpt : Nat → Int64) (xfa : Int64) (xfb : Int64) (xsc : Int32) (xtc : Int32) (xhd : Nat → Int32) (xwt : Nat → Int32) (q1 : Int32) (q2 : Int32) (q3 : Int32) : CL l yX6_alter cX6_alter 4 3 D cI cJ [.ref ax, .int q1, .int q2, .int q3] [(ax, .inr (6, [.ref ap, .ref ar, .ref au, .ref an, .ref ato, .long xrd, .long xal])), (ato, .inr (1, [.long xta, .long xtb])), (ap, .inr (4, [.ref apc, .int xpl])), (apc, .inl (cI, 47, .inl xpc)), (ar, .inr (5, [.ref ard, .int xso, .int xtr, .int xwi, .int xnu])), (ard, .inl (cI, 16, .inl xdr)), (an, .inr (3, [.ref af, .ref anq, .int xns, .int xnc])), (anq, .inr (1, [.long xna, .long xnb])), (af, .inr (0, [.ref afp, .ref afm, .ref afs, .ref aft, .ref afq, .int xfs, .int xba, .long xbe])), (afp, .inl (cJ, 25, .inr (.inl xpr))), (afm, .inl (cJ, 9, .inr (.inl xmx))), (afs, .inl (cJ, 3, .inr (.inl xsd))), (aft, .inl (cJ, 4, .inr (.inl xpt))), (afq, .inr (1, [.long xfa, .long xfb])), (au, .inr (2, [.ref auh, .ref auw, .int xsc, .int xtc])), (auh, .inl (cI, 20, .inl xhd)), (auw, .inl (cI, 4, .inl xwt))] [(ax, .inr (6, [.ref ap, .ref ar, .ref au, .ref an, .ref ato, .long xrd, .long ((f_X6_alter xal xsc xtc xhd q1 q2 q3).2.1)])), (ato, .inr (1, [.long xta, .long xtb])), (ap, .inr (4, [.ref apc, .int xpl])), (apc, .inl (cI, 47, .inl xpc)), (ar, .inr (5, [.ref ard, .int xso, .int xtr, .int xwi, .int xnu])), (ard, .inl (cI, 16, .inl xdr)), (an, .inr (3, [.ref af, .ref anq, .int xns, .int xnc])), (anq, .inr (1, [.long xna, .long xnb])), (af, .inr (0, [.ref afp, .ref afm, .ref afs, .ref aft, .ref afq, .int xfs, .int xba, .long xbe])), (afp, .inl (cJ, 25, .inr (.inl xpr))), (afm, .inl (cJ, 9, .inr (.inl xmx))), (afs, .inl (cJ, 3, .inr (.inl xsd))), (aft, .inl (cJ, 4, .inr (.inl xpt))), (afq, .inr (1, [.long xfa, .long xfb])), (au, .inr (2, [.ref auh, .ref auw, .int xsc, .int xtc])), (auh, .inl (cI, 20, .inl ((f_X6_alter xal xsc xtc xhd q1 q2 q3).2.2))), (auw, .inl (cI, 4, .inl xwt))] ((f_X6_alter xal xsc xtc xhd q1 q2 q3).1) := by
  generalize hr : f_X6_alter xal xsc xtc xhd q1 q2 q3 = r
  refine fr_entryL (by decide) rfl ?_
  intro p e s m args below meth c A Q H locs hQ C hret hlk w ls hl
  have hx := C.1
  have hb := C.2.1
  have hl : lv_has ls 4 [(0, .ref ax), (1, .int q1), (2, .int q2), (3, .int q3)] := hl
  have hr : (if (f_X2_isSource xsc q1) = 0 then ((-1000002), xal, xhd) else (if (f_X2_isTracer xtc q2) = 0 then ((-1000002), xal, xhd) else (if (f_X6_isHeld q3) = 0 then ((-1000003), xal, xhd) else ((fun (z37_4 : Int64 × Int64 × (Nat → Int32)) => (z37_4.1, z37_4.2.1, z37_4.2.2)) (f_X6_putHeld xal xhd q1 q2 q3))))) = r := hr
  refine lv_aload_n hx hb dX6_alter_0 rfl (lv_at hl 0 rfl) ?_
  refine fr_get C w fg_X6_26 0 rfl rfl dX6_alter_1 ?_
  refine lv_iload_n hx hb dX6_alter_4 rfl (lv_at hl 1 rfl) ?_
  refine fr_callIV (As := [.int q1]) (rest := []) C w kf_X2_isSource mw_12_18 (c_X2_isSource l D cI cJ au auh auw xsc xtc xhd xwt q1) ⟨Nat.le_of_ble_eq_true rfl, Nat.le_of_ble_eq_true rfl⟩ ⟨Nat.le_refl 0, Nat.le_refl 0⟩ [14, 15, 16] rfl rfl rfl (ws' := [(ax, .inr (6, [.ref ap, .ref ar, .ref au, .ref an, .ref ato, .long xrd, .long xal])), (ato, .inr (1, [.long xta, .long xtb])), (ap, .inr (4, [.ref apc, .int xpl])), (apc, .inl (cI, 47, .inl xpc)), (ar, .inr (5, [.ref ard, .int xso, .int xtr, .int xwi, .int xnu])), (ard, .inl (cI, 16, .inl xdr)), (an, .inr (3, [.ref af, .ref anq, .int xns, .int xnc])), (anq, .inr (1, [.long xna, .long xnb])), (af, .inr (0, [.ref afp, .ref afm, .ref afs, .ref aft, .ref afq, .int xfs, .int xba, .long xbe])), (afp, .inl (cJ, 25, .inr (.inl xpr))), (afm, .inl (cJ, 9, .inr (.inl xmx))), (afs, .inl (cJ, 3, .inr (.inl xsd))), (aft, .inl (cJ, 4, .inr (.inl xpt))), (afq, .inr (1, [.long xfa, .long xfb])), (au, .inr (2, [.ref auh, .ref auw, .int xsc, .int xtc])), (auh, .inl (cI, 20, .inl xhd)), (auw, .inl (cI, 4, .inl xwt))]) rfl rfl rfl rfl hl.1 rfl (Nat.le_of_ble_eq_true rfl) dX6_alter_5 (fun H locs w => ?_)
  refine lv_if_eq (tgt := 22) hx hb dX6_alter_8 (by decide) (fun c8_1 => ?_) (fun c8_1 => ?_)
  · have hr := (if_pos c8_1).symm.trans hr
    refine lv_ldc2 hx hb C.2.2.2.1 (C.2.2.2.2.1 _ mw_10_20) dX6_alter_22 ?_
    subst hr hQ
    exact fr_lret C hret hlk w rfl rfl dX6_alter_25
  · have hr := (if_neg c8_1).symm.trans hr
    refine lv_aload_n hx hb dX6_alter_11 rfl (lv_at hl 0 rfl) ?_
    refine fr_get C w fg_X6_26 0 rfl rfl dX6_alter_12 ?_
    refine lv_iload_n hx hb dX6_alter_15 rfl (lv_at hl 2 rfl) ?_
    refine fr_callIV (As := [.int q2]) (rest := []) C w kf_X2_isTracer mw_10_22 (c_X2_isTracer l D cI cJ au auh auw xsc xtc xhd xwt q2) ⟨Nat.le_of_ble_eq_true rfl, Nat.le_of_ble_eq_true rfl⟩ ⟨Nat.le_refl 0, Nat.le_refl 0⟩ [14, 15, 16] rfl rfl rfl (ws' := [(ax, .inr (6, [.ref ap, .ref ar, .ref au, .ref an, .ref ato, .long xrd, .long xal])), (ato, .inr (1, [.long xta, .long xtb])), (ap, .inr (4, [.ref apc, .int xpl])), (apc, .inl (cI, 47, .inl xpc)), (ar, .inr (5, [.ref ard, .int xso, .int xtr, .int xwi, .int xnu])), (ard, .inl (cI, 16, .inl xdr)), (an, .inr (3, [.ref af, .ref anq, .int xns, .int xnc])), (anq, .inr (1, [.long xna, .long xnb])), (af, .inr (0, [.ref afp, .ref afm, .ref afs, .ref aft, .ref afq, .int xfs, .int xba, .long xbe])), (afp, .inl (cJ, 25, .inr (.inl xpr))), (afm, .inl (cJ, 9, .inr (.inl xmx))), (afs, .inl (cJ, 3, .inr (.inl xsd))), (aft, .inl (cJ, 4, .inr (.inl xpt))), (afq, .inr (1, [.long xfa, .long xfb])), (au, .inr (2, [.ref auh, .ref auw, .int xsc, .int xtc])), (auh, .inl (cI, 20, .inl xhd)), (auw, .inl (cI, 4, .inl xwt))]) rfl rfl rfl rfl hl.1 rfl (Nat.le_of_ble_eq_true rfl) dX6_alter_16 (fun H locs w => ?_)
    refine lv_if_ne (tgt := 26) hx hb dX6_alter_19 (by decide) (fun c19_2 => ?_) (fun c19_2 => ?_)
    · have hr := (if_neg c19_2).symm.trans hr
      refine lv_iload_n hx hb dX6_alter_26 rfl (lv_at hl 3 rfl) ?_
      refine fr_callIS (As := [.int q3]) (rest := []) C w kf_X6_isHeld mw_11_2 (c_X6_isHeld l D cI cJ q3) ⟨Nat.le_of_ble_eq_true rfl, Nat.le_of_ble_eq_true rfl⟩ ⟨Nat.le_refl 0, Nat.le_refl 0⟩ [] rfl rfl rfl (ws' := [(ax, .inr (6, [.ref ap, .ref ar, .ref au, .ref an, .ref ato, .long xrd, .long xal])), (ato, .inr (1, [.long xta, .long xtb])), (ap, .inr (4, [.ref apc, .int xpl])), (apc, .inl (cI, 47, .inl xpc)), (ar, .inr (5, [.ref ard, .int xso, .int xtr, .int xwi, .int xnu])), (ard, .inl (cI, 16, .inl xdr)), (an, .inr (3, [.ref af, .ref anq, .int xns, .int xnc])), (anq, .inr (1, [.long xna, .long xnb])), (af, .inr (0, [.ref afp, .ref afm, .ref afs, .ref aft, .ref afq, .int xfs, .int xba, .long xbe])), (afp, .inl (cJ, 25, .inr (.inl xpr))), (afm, .inl (cJ, 9, .inr (.inl xmx))), (afs, .inl (cJ, 3, .inr (.inl xsd))), (aft, .inl (cJ, 4, .inr (.inl xpt))), (afq, .inr (1, [.long xfa, .long xfb])), (au, .inr (2, [.ref auh, .ref auw, .int xsc, .int xtc])), (auh, .inl (cI, 20, .inl xhd)), (auw, .inl (cI, 4, .inl xwt))]) rfl rfl hl.1 rfl (Nat.le_of_ble_eq_true rfl) dX6_alter_27 (fun H locs w => ?_)
      refine lv_if_eq (tgt := 43) hx hb dX6_alter_30 (by decide) (fun c30_3 => ?_) (fun c30_3 => ?_)
      · have hr := (if_pos c30_3).symm.trans hr
        refine lv_ldc2 hx hb C.2.2.2.1 (C.2.2.2.2.1 _ mw_4_23) dX6_alter_43 ?_
        subst hr hQ
        exact fr_lret C hret hlk w rfl rfl dX6_alter_46
      · have hr := (if_neg c30_3).symm.trans hr
        refine lv_aload_n hx hb dX6_alter_33 rfl (lv_at hl 0 rfl) ?_
        refine lv_iload_n hx hb dX6_alter_34 rfl (lv_at hl 1 rfl) ?_
        refine lv_iload_n hx hb dX6_alter_35 rfl (lv_at hl 2 rfl) ?_
        refine lv_iload_n hx hb dX6_alter_36 rfl (lv_at hl 3 rfl) ?_
        obtain ⟨z37_4, hz37_4⟩ : ∃ y, (f_X6_putHeld xal xhd q1 q2 q3) = y := ⟨_, rfl⟩
        have hcz37_4 := c_X6_putHeld l D cI cJ ax ap ar au an ato apc ard af anq afp afm afs aft afq auh auw xrd xal xta xtb xpl xpc xso xtr xwi xnu xdr xns xnc xna xnb xfs xba xbe xpr xmx xsd xpt xfa xfb xsc xtc xhd xwt q1 q2 q3
        rw [hz37_4] at hcz37_4
        have hr : (z37_4.1, z37_4.2.1, z37_4.2.2) = r := by subst hz37_4; exact hr
        refine fr_callLV (As := [.int q1, .int q2, .int q3]) (rest := []) C w kf_X6_putHeld mw_11_5 (hcz37_4) ⟨Nat.le_of_ble_eq_true rfl, Nat.le_of_ble_eq_true rfl⟩ ⟨Nat.le_refl 0, Nat.le_refl 0⟩ [0, 1, 2, 3, 4, 5, 6, 7, 8, 9, 10, 11, 12, 13, 14, 15, 16] rfl rfl rfl (ws' := [(ax, .inr (6, [.ref ap, .ref ar, .ref au, .ref an, .ref ato, .long xrd, .long z37_4.2.1])), (ato, .inr (1, [.long xta, .long xtb])), (ap, .inr (4, [.ref apc, .int xpl])), (apc, .inl (cI, 47, .inl xpc)), (ar, .inr (5, [.ref ard, .int xso, .int xtr, .int xwi, .int xnu])), (ard, .inl (cI, 16, .inl xdr)), (an, .inr (3, [.ref af, .ref anq, .int xns, .int xnc])), (anq, .inr (1, [.long xna, .long xnb])), (af, .inr (0, [.ref afp, .ref afm, .ref afs, .ref aft, .ref afq, .int xfs, .int xba, .long xbe])), (afp, .inl (cJ, 25, .inr (.inl xpr))), (afm, .inl (cJ, 9, .inr (.inl xmx))), (afs, .inl (cJ, 3, .inr (.inl xsd))), (aft, .inl (cJ, 4, .inr (.inl xpt))), (afq, .inr (1, [.long xfa, .long xfb])), (au, .inr (2, [.ref auh, .ref auw, .int xsc, .int xtc])), (auh, .inl (cI, 20, .inl z37_4.2.2)), (auw, .inl (cI, 4, .inl xwt))]) rfl rfl rfl rfl hl.1 rfl (Nat.le_of_ble_eq_true rfl) dX6_alter_37 (fun H locs w => ?_)
        refine lv_goto (tgt := 46) hx hb dX6_alter_40 (by decide) ?_
        subst hr hQ
        exact fr_lret C hret hlk w rfl rfl dX6_alter_46
    · have hr := (if_pos c19_2).symm.trans hr
      refine lv_ldc2 hx hb C.2.2.2.1 (C.2.2.2.2.1 _ mw_10_20) dX6_alter_22 ?_
      subst hr hQ
      exact fr_lret C hret hlk w rfl rfl dX6_alter_25
