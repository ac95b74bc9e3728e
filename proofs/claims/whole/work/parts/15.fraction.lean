theorem mw_20_11 : Cond.methodLink RX1 18 Lib.MathLoose.abs_long.x ∈ wsL_law := ck_20 _ (List.mem_of_getElem? (i := 11) rfl)
theorem mw_20_12 : Cond.static Lib.MathLoose.abs_long.x ∈ wsL_law := ck_20 _ (List.mem_of_getElem? (i := 12) rfl)
theorem mw_20_13 : Cond.initialized "java/lang/Math" ∈ wsL_law := ck_20 _ (List.mem_of_getElem? (i := 13) rfl)
theorem mw_20_14 : Cond.code Lib.MathLoose.abs_long.x Lib.MathLoose.abs_long.code 2 (some .long) ∈ wsL_law := ck_20 _ (List.mem_of_getElem? (i := 14) rfl)
theorem mw_20_15 : Cond.methodLink RX1 24 yX1_commonDivisor ∈ wsL_law := ck_20 _ (List.mem_of_getElem? (i := 15) rfl)
theorem mw_20_17 : Cond.code yX1_commonDivisor cX1_commonDivisor 11 (some .long) ∈ wsL_law := ck_20 _ (List.mem_of_getElem? (i := 17) rfl)
theorem mw_2_6 : Cond.initialized RX1 ∈ wsL_law := ck_2 _ (List.mem_of_getElem? (i := 6) rfl)
theorem mw_20_16 : Cond.static yX1_commonDivisor ∈ wsL_law := ck_20 _ (List.mem_of_getElem? (i := 16) rfl)
theorem mw_4_2 : Cond.fieldLink RX1 9 "MudShares$Fraction" "above" "J" ∈ wsL_law := ck_4 _ (List.mem_of_getElem? (i := 2) rfl)
theorem mw_4_3 : Cond.fieldLink RX1 15 "MudShares$Fraction" "below" "J" ∈ wsL_law := ck_4 _ (List.mem_of_getElem? (i := 3) rfl)
theorem mw_21_11 : Cond.methodLink RX1 28 yJ13_compare_74951 ∈ wsL_law := ck_21 _ (List.mem_of_getElem? (i := 11) rfl)
theorem mw_21_14 : Cond.code yJ13_compare_74951 cJ13_compare_74951 4 (some .int) ∈ wsL_law := ck_21 _ (List.mem_of_getElem? (i := 14) rfl)
theorem mw_21_13 : Cond.initialized RJ13 ∈ wsL_law := ck_21 _ (List.mem_of_getElem? (i := 13) rfl)
theorem mw_21_12 : Cond.static yJ13_compare_74951 ∈ wsL_law := ck_21 _ (List.mem_of_getElem? (i := 12) rfl)
theorem fp_X1_9 : FP RX1 9 1 0 .long := ⟨RX1, TX1, 2, tyX1, rfl, by decide, inlX1, mw_4_2, tyX1_ok, nmX1, rfl, by decide +kernel⟩
theorem fp_X1_15 : FP RX1 15 1 1 .long := ⟨RX1, TX1, 2, tyX1, rfl, by decide, inlX1, mw_4_3, tyX1_ok, nmX1, rfl, by decide +kernel⟩
theorem fg_X1_9 : FG RX1 9 1 0 := ⟨RX1, TX1, 2, rfl, by decide, inlX1, mw_4_2⟩
theorem fg_X1_15 : FG RX1 15 1 1 := ⟨RX1, TX1, 2, rfl, by decide, inlX1, mw_4_3⟩
theorem kf_X1_commonDivisor : KS yX1_commonDivisor cX1_commonDivisor 11 (some .long) 2 := ⟨mw_20_17, mw_20_16, mw_2_6, by decide, by decide, by decide +kernel⟩
theorem kf_J13_compare_74951 : KS yJ13_compare_74951 cJ13_compare_74951 4 (some .int) 2 := ⟨mw_21_14, mw_21_12, mw_21_13, by decide, by decide, by decide +kernel⟩
def f_X1_put (q1 : Int64) (q2 : Int64) : Int64 × Int64 := (if q2 ≤ 0 then (0, 1) else (if 0 < (f_X1_commonDivisor (if 0 < q1 then q1 else -q1) q2) then (q1 / (f_X1_commonDivisor (if 0 < q1 then q1 else -q1) q2), q2 / (f_X1_commonDivisor (if 0 < q1 then q1 else -q1) q2)) else (0, 1)))
set_option maxRecDepth 100000 in
set_option maxHeartbeats 4000000 in
theorem c_X1_put (l : Launch) (D : va_G) (cI cJ : ClassId) (ag : Nat) (ga : Int64) (gb : Int64) (q1 : Int64) (q2 : Int64) : CV l yX1_put cX1_put 7 1 D cI cJ [.ref ag, .long q1, .long q2] [(ag, .inr (1, [.long ga, .long gb]))] [(ag, .inr (1, [.long ((f_X1_put q1 q2).1), .long ((f_X1_put q1 q2).2)]))] := by
  generalize hr : f_X1_put q1 q2 = r
  refine fr_entryV (by decide) rfl ?_
  intro p e s m args below meth c A Q H locs hQ C hret hlk w ls hl
  have hx := C.1
  have hb := C.2.1
  have hl : lv_has ls 7 [(0, .ref ag), (1, .long q1), (3, .long q2)] := hl
  have hr : (if q2 ≤ 0 then (0, 1) else (if 0 < (f_X1_commonDivisor (if 0 < q1 then q1 else -q1) q2) then (q1 / (f_X1_commonDivisor (if 0 < q1 then q1 else -q1) q2), q2 / (f_X1_commonDivisor (if 0 < q1 then q1 else -q1) q2)) else (0, 1))) = r := hr
  refine lv_lload_n hx hb dX1_put_0 rfl (lv_at hl 1 rfl) ?_
  refine va_mabs_long hx hb (C.2.2.1.trans hl.1.symm) C.2.2.2.1 (C.2.2.2.2.1 _ mw_20_11) (C.2.2.2.2.1 _ mw_20_12) (C.2.2.2.2.1 _ mw_20_13) (C.2.2.2.2.1 _ mw_20_14) (Nat.le_of_ble_eq_true rfl) (Nat.le_of_ble_eq_true rfl) (Nat.zero_le _) (Nat.zero_le _) dX1_put_1 ?_
  refine lv_lload_n hx hb dX1_put_4 rfl (lv_at hl 2 rfl) ?_
  refine fr_callLS (As := [.long (if 0 < q1 then q1 else -q1), .long q2]) (rest := []) C w kf_X1_commonDivisor mw_20_15 (c_X1_commonDivisor l D cI cJ (if 0 < q1 then q1 else -q1) q2) ⟨Nat.le_of_ble_eq_true rfl, Nat.le_of_ble_eq_true rfl⟩ ⟨Nat.le_refl 0, Nat.le_refl 0⟩ [] rfl rfl rfl (ws' := [(ag, .inr (1, [.long ga, .long gb]))]) rfl rfl hl.1 rfl (Nat.le_of_ble_eq_true rfl) dX1_put_5 (fun H locs w => ?_)
  refine lv_lstore (lv' := [(5, .long (f_X1_commonDivisor (if 0 < q1 then q1 else -q1) q2)), (0, .ref ag), (1, .long q1), (3, .long q2)]) hx hb dX1_put_8 hl (by decide) rfl (fun ls hl => ?_)
  refine lv_lload_n hx hb dX1_put_10 rfl (lv_at hl 3 rfl) ?_
  refine lv_lconst (v := 0) hx hb dX1_put_11 (by decide) ?_
  refine fr_lle (tgt := 23) hx hb dX1_put_12 dX1_put_13 (by decide) (fun c13_1 => ?_) (fun c13_1 => ?_)
  · have hr := (if_pos c13_1).symm.trans hr
    refine lv_aload_n hx hb dX1_put_23 rfl (lv_at hl 1 rfl) ?_
    refine lv_lconst (v := 0) hx hb dX1_put_24 (by decide) ?_
    refine fr_put C w fp_X1_9 0 rfl rfl rfl rfl (ws' := [(ag, .inr (1, [.long 0, .long gb]))]) rfl dX1_put_25 (fun H locs w => ?_)
    refine lv_aload_n hx hb dX1_put_28 rfl (lv_at hl 1 rfl) ?_
    refine lv_lconst (v := 1) hx hb dX1_put_29 (by decide) ?_
    refine fr_put C w fp_X1_15 0 rfl rfl rfl rfl (ws' := [(ag, .inr (1, [.long 0, .long 1]))]) rfl dX1_put_30 (fun H locs w => ?_)
    subst hr hQ
    exact fr_vret C hret hlk w rfl dX1_put_33
  · have hr := (if_neg c13_1).symm.trans hr
    refine lv_lload hx hb dX1_put_16 (lv_at hl 0 rfl) ?_
    refine lv_lconst (v := 0) hx hb dX1_put_18 (by decide) ?_
    refine fr_lgt (tgt := 34) hx hb dX1_put_19 dX1_put_20 (by decide) (fun c20_2 => ?_) (fun c20_2 => ?_)
    · have hr := (if_pos c20_2).symm.trans hr
      refine lv_aload_n hx hb dX1_put_34 rfl (lv_at hl 1 rfl) ?_
      refine lv_lload_n hx hb dX1_put_35 rfl (lv_at hl 2 rfl) ?_
      refine lv_lload hx hb dX1_put_36 (lv_at hl 0 rfl) ?_
      refine lv_ldiv hx hb dX1_put_38 (ne0_lpos (by assumption)) ?_
      refine fr_put C w fp_X1_9 0 rfl rfl rfl rfl (ws' := [(ag, .inr (1, [.long (q1 / (f_X1_commonDivisor (if 0 < q1 then q1 else -q1) q2)), .long gb]))]) rfl dX1_put_39 (fun H locs w => ?_)
      refine lv_aload_n hx hb dX1_put_42 rfl (lv_at hl 1 rfl) ?_
      refine lv_lload_n hx hb dX1_put_43 rfl (lv_at hl 3 rfl) ?_
      refine lv_lload hx hb dX1_put_44 (lv_at hl 0 rfl) ?_
      refine lv_ldiv hx hb dX1_put_46 (ne0_lpos (by assumption)) ?_
      refine fr_put C w fp_X1_15 0 rfl rfl rfl rfl (ws' := [(ag, .inr (1, [.long (q1 / (f_X1_commonDivisor (if 0 < q1 then q1 else -q1) q2)), .long (q2 / (f_X1_commonDivisor (if 0 < q1 then q1 else -q1) q2))]))]) rfl dX1_put_47 (fun H locs w => ?_)
      subst hr hQ
      exact fr_vret C hret hlk w rfl dX1_put_50
    · have hr := (if_neg c20_2).symm.trans hr
      refine lv_aload_n hx hb dX1_put_23 rfl (lv_at hl 1 rfl) ?_
      refine lv_lconst (v := 0) hx hb dX1_put_24 (by decide) ?_
      refine fr_put C w fp_X1_9 0 rfl rfl rfl rfl (ws' := [(ag, .inr (1, [.long 0, .long gb]))]) rfl dX1_put_25 (fun H locs w => ?_)
      refine lv_aload_n hx hb dX1_put_28 rfl (lv_at hl 1 rfl) ?_
      refine lv_lconst (v := 1) hx hb dX1_put_29 (by decide) ?_
      refine fr_put C w fp_X1_15 0 rfl rfl rfl rfl (ws' := [(ag, .inr (1, [.long 0, .long 1]))]) rfl dX1_put_30 (fun H locs w => ?_)
      subst hr hQ
      exact fr_vret C hret hlk w rfl dX1_put_33
def f_X1_copy (gc : Int64) (gd : Int64) : Int64 × Int64 := (gc, gd)
set_option maxRecDepth 100000 in
set_option maxHeartbeats 4000000 in
theorem c_X1_copy (l : Launch) (D : va_G) (cI cJ : ClassId) (ag ag2 : Nat) (ga : Int64) (gb : Int64) (gc : Int64) (gd : Int64)  : CV l yX1_copy cX1_copy 2 0 D cI cJ [.ref ag, .ref ag2] [(ag, .inr (1, [.long ga, .long gb])), (ag2, .inr (1, [.long gc, .long gd]))] [(ag, .inr (1, [.long ((f_X1_copy gc gd).1), .long ((f_X1_copy gc gd).2)])), (ag2, .inr (1, [.long gc, .long gd]))] := by
  generalize hr : f_X1_copy gc gd = r
  refine fr_entryV (by decide) rfl ?_
  intro p e s m args below meth c A Q H locs hQ C hret hlk w ls hl
  have hx := C.1
  have hb := C.2.1
  have hl : lv_has ls 2 [(0, .ref ag), (1, .ref ag2)] := hl
  have hr : (gc, gd) = r := hr
  refine lv_aload_n hx hb dX1_copy_0 rfl (lv_at hl 0 rfl) ?_
  refine lv_aload_n hx hb dX1_copy_1 rfl (lv_at hl 1 rfl) ?_
  refine fr_get C w fg_X1_9 1 rfl rfl dX1_copy_2 ?_
  refine fr_put C w fp_X1_9 0 rfl rfl rfl rfl (ws' := [(ag, .inr (1, [.long gc, .long gb])), (ag2, .inr (1, [.long gc, .long gd]))]) rfl dX1_copy_5 (fun H locs w => ?_)
  refine lv_aload_n hx hb dX1_copy_8 rfl (lv_at hl 0 rfl) ?_
  refine lv_aload_n hx hb dX1_copy_9 rfl (lv_at hl 1 rfl) ?_
  refine fr_get C w fg_X1_15 1 rfl rfl dX1_copy_10 ?_
  refine fr_put C w fp_X1_15 0 rfl rfl rfl rfl (ws' := [(ag, .inr (1, [.long gc, .long gd])), (ag2, .inr (1, [.long gc, .long gd]))]) rfl dX1_copy_13 (fun H locs w => ?_)
  subst hr hQ
  exact fr_vret C hret hlk w rfl dX1_copy_16
def f_X1_part (ga : Int64) (gb : Int64) (q1 : Int32) : Int64 := (if q1 = 0 then ga else gb)
set_option maxRecDepth 100000 in
set_option maxHeartbeats 4000000 in
theorem c_X1_part (l : Launch) (D : va_G) (cI cJ : ClassId) (ag : Nat) (ga : Int64) (gb : Int64) (q1 : Int32) : CL l yX1_part cX1_part 2 0 D cI cJ [.ref ag, .int q1] [(ag, .inr (1, [.long ga, .long gb]))] [(ag, .inr (1, [.long ga, .long gb]))] (f_X1_part ga gb q1) := by
  generalize hr : f_X1_part ga gb q1 = r
  refine fr_entryL (by decide) rfl ?_
  intro p e s m args below meth c A Q H locs hQ C hret hlk w ls hl
  have hx := C.1
  have hb := C.2.1
  have hl : lv_has ls 2 [(0, .ref ag), (1, .int q1)] := hl
  have hr : (if q1 = 0 then ga else gb) = r := hr
  refine lv_iload_n hx hb dX1_part_0 rfl (lv_at hl 1 rfl) ?_
  refine lv_if_ne (tgt := 11) hx hb dX1_part_1 (by decide) (fun c1_1 => ?_) (fun c1_1 => ?_)
  · have hr := (if_neg c1_1).symm.trans hr
    refine lv_aload_n hx hb dX1_part_11 rfl (lv_at hl 0 rfl) ?_
    refine fr_get C w fg_X1_15 0 rfl rfl dX1_part_12 ?_
    subst hr hQ
    exact fr_lret C hret hlk w rfl rfl dX1_part_15
  · have hr := (if_pos c1_1).symm.trans hr
    refine lv_aload_n hx hb dX1_part_4 rfl (lv_at hl 0 rfl) ?_
    refine fr_get C w fg_X1_9 0 rfl rfl dX1_part_5 ?_
    refine lv_goto (tgt := 15) hx hb dX1_part_8 (by decide) ?_
    subst hr hQ
    exact fr_lret C hret hlk w rfl rfl dX1_part_15
def L_X1_against_29  : Nat → Int64 → Int64 → Int64 → Int64 → Int32 → Int32 → Int32
  | 0, _, _, _, _, _, _ => 0
  | n29 + 1, i1, i2, i3, i4, i5, i6 => (if 200 ≤ i6 then 0 else (if i2 ≤ 0 then 0 else (if i4 ≤ 0 then 0 else (if (f_J13_compare_74951 (i1 / i2) (i3 / i4)) = 0 then (if (i1 - i1 / i2 * i2) = 0 then i5 * (f_J13_compare_74951 (i1 - i1 / i2 * i2) (i3 - i3 / i4 * i4)) else (if (i3 - i3 / i4 * i4) = 0 then i5 * (f_J13_compare_74951 (i1 - i1 / i2 * i2) (i3 - i3 / i4 * i4)) else L_X1_against_29  n29 i2 (i1 - i1 / i2 * i2) i4 (i3 - i3 / i4 * i4) (-i5) (i6 + 1))) else i5 * (f_J13_compare_74951 (i1 / i2) (i3 / i4))))))
def f_X1_against (ga : Int64) (gb : Int64) (gc : Int64) (gd : Int64) : Int32 := L_X1_against_29 201 ga gb gc gd 1 0
set_option maxRecDepth 100000 in
set_option maxHeartbeats 4000000 in
theorem c_X1_against (l : Launch) (D : va_G) (cI cJ : ClassId) (ag ag2 : Nat) (ga : Int64) (gb : Int64) (gc : Int64) (gd : Int64)  : CI l yX1_against cX1_against 17 .int 1 D cI cJ [.ref ag, .ref ag2] [(ag, .inr (1, [.long ga, .long gb])), (ag2, .inr (1, [.long gc, .long gd]))] [(ag, .inr (1, [.long ga, .long gb])), (ag2, .inr (1, [.long gc, .long gd]))] (f_X1_against ga gb gc gd) := by
  generalize hr : f_X1_against ga gb gc gd = r
  refine fr_entryI (by decide) rfl ?_
  intro p e s m args below meth c A Q H locs hQ C hret hlk w ls hl
  have hx := C.1
  have hb := C.2.1
  have hl : lv_has ls 17 [(0, .ref ag), (1, .ref ag2)] := hl
  have hr : L_X1_against_29 201 ga gb gc gd 1 0 = r := hr
  refine lv_aload_n hx hb dX1_against_0 rfl (lv_at hl 0 rfl) ?_
  refine fr_get C w fg_X1_9 0 rfl rfl dX1_against_1 ?_
  refine lv_lstore_n (lv' := [(2, .long ga), (0, .ref ag), (1, .ref ag2)]) hx hb dX1_against_4 rfl hl (by decide) rfl (fun ls hl => ?_)
  refine lv_aload_n hx hb dX1_against_5 rfl (lv_at hl 1 rfl) ?_
  refine fr_get C w fg_X1_15 0 rfl rfl dX1_against_6 ?_
  refine lv_lstore (lv' := [(4, .long gb), (2, .long ga), (0, .ref ag), (1, .ref ag2)]) hx hb dX1_against_9 hl (by decide) rfl (fun ls hl => ?_)
  refine lv_aload_n hx hb dX1_against_11 rfl (lv_at hl 3 rfl) ?_
  refine fr_get C w fg_X1_9 1 rfl rfl dX1_against_12 ?_
  refine lv_lstore (lv' := [(6, .long gc), (4, .long gb), (2, .long ga), (0, .ref ag), (1, .ref ag2)]) hx hb dX1_against_15 hl (by decide) rfl (fun ls hl => ?_)
  refine lv_aload_n hx hb dX1_against_17 rfl (lv_at hl 4 rfl) ?_
  refine fr_get C w fg_X1_15 1 rfl rfl dX1_against_18 ?_
  refine lv_lstore (lv' := [(8, .long gd), (6, .long gc), (4, .long gb), (2, .long ga), (0, .ref ag), (1, .ref ag2)]) hx hb dX1_against_21 hl (by decide) rfl (fun ls hl => ?_)
  refine lv_iconst (v := 1) hx hb dX1_against_23 (by decide) ?_
  refine lv_istore (lv' := [(10, .int 1), (8, .long gd), (6, .long gc), (4, .long gb), (2, .long ga), (0, .ref ag), (1, .ref ag2)]) hx hb dX1_against_24 hl (by decide) rfl (fun ls hl => ?_)
  refine lv_iconst (v := 0) hx hb dX1_against_26 (by decide) ?_
  refine lv_istore (lv' := [(11, .int 0), (10, .int 1), (8, .long gd), (6, .long gc), (4, .long gb), (2, .long ga), (0, .ref ag), (1, .ref ag2)]) hx hb dX1_against_27 hl (by decide) rfl (fun ls hl => ?_)
  have LP29 : ∀ (n29 : Nat) (k29 : Nat) (i1 : Int64) (i2 : Int64) (i3 : Int64) (i4 : Int64) (i5 : Int32) (i6 : Int32), i6 = nI k29 → k29 ≤ 200 → 200 < k29 + n29 → L_X1_against_29 n29 i1 i2 i3 i4 i5 i6 = r → ∀ (H : Heap) (locs : List Loc), Wd D A s.heap H locs [(ag, .inr (1, [.long ga, .long gb])), (ag2, .inr (1, [.long gc, .long gd]))] → ∀ (ls : Array Slot), lv_has ls 17 [(0, .ref ag), (1, .ref ag2), (2, .long i1), (4, .long i2), (6, .long i3), (8, .long i4), (10, .int i5), (11, .int i6)] → W p l e (rl 1) s m args below meth c H locs 0 0 Q (F0 m 29 ls []) := by
    skip
    intro n29
    induction n29 with
    | zero => intro k29 i1 i2 i3 i4 i5 i6 hk29 hkN29 hn29; exact absurd hn29 (by omega)
    | succ n29 ih29 =>
      intro k29 i1 i2 i3 i4 i5 i6 hk29 hkN29 hn29 hr H locs w ls hl
      have hr : (if 200 ≤ i6 then 0 else (if i2 ≤ 0 then 0 else (if i4 ≤ 0 then 0 else (if (f_J13_compare_74951 (i1 / i2) (i3 / i4)) = 0 then (if (i1 - i1 / i2 * i2) = 0 then i5 * (f_J13_compare_74951 (i1 - i1 / i2 * i2) (i3 - i3 / i4 * i4)) else (if (i3 - i3 / i4 * i4) = 0 then i5 * (f_J13_compare_74951 (i1 - i1 / i2 * i2) (i3 - i3 / i4 * i4)) else L_X1_against_29  n29 i2 (i1 - i1 / i2 * i2) i4 (i3 - i3 / i4 * i4) (-i5) (i6 + 1))) else i5 * (f_J13_compare_74951 (i1 / i2) (i3 / i4)))))) = r := hr
      refine lv_iload hx hb dX1_against_29 (lv_at hl 7 rfl) ?_
      refine lv_sipush (v := 200) hx hb dX1_against_31 (by decide) ?_
      refine lv_icmp_ge (tgt := 140) hx hb dX1_against_34 (by decide) (fun c34_7 => ?_) (fun c34_7 => ?_)
      · have hr := (if_pos c34_7).symm.trans hr
        refine lv_iconst (v := 0) hx hb dX1_against_140 (by decide) ?_
        subst hr hQ
        exact fr_iret (W0 := []) C hret hlk w rfl rfl rfl dX1_against_141
      · have hr := (if_neg c34_7).symm.trans hr
        have hkl29 := kl_of hk29 hkN29 (N := 200) (by decide) (by omega) c34_7
        refine lv_lload hx hb dX1_against_37 (lv_at hl 3 rfl) ?_
        refine lv_lconst (v := 0) hx hb dX1_against_39 (by decide) ?_
        refine fr_lle (tgt := 140) hx hb dX1_against_40 dX1_against_41 (by decide) (fun c41_8 => ?_) (fun c41_8 => ?_)
        · have hr := (if_pos c41_8).symm.trans hr
          refine lv_iconst (v := 0) hx hb dX1_against_140 (by decide) ?_
          subst hr hQ
          exact fr_iret (W0 := []) C hret hlk w rfl rfl rfl dX1_against_141
        · have hr := (if_neg c41_8).symm.trans hr
          refine lv_lload hx hb dX1_against_44 (lv_at hl 5 rfl) ?_
          refine lv_lconst (v := 0) hx hb dX1_against_46 (by decide) ?_
          refine fr_lle (tgt := 140) hx hb dX1_against_47 dX1_against_48 (by decide) (fun c48_9 => ?_) (fun c48_9 => ?_)
          · have hr := (if_pos c48_9).symm.trans hr
            refine lv_iconst (v := 0) hx hb dX1_against_140 (by decide) ?_
            subst hr hQ
            exact fr_iret (W0 := []) C hret hlk w rfl rfl rfl dX1_against_141
          · have hr := (if_neg c48_9).symm.trans hr
            refine lv_lload_n hx hb dX1_against_51 rfl (lv_at hl 2 rfl) ?_
            refine lv_lload hx hb dX1_against_52 (lv_at hl 3 rfl) ?_
            refine lv_ldiv hx hb dX1_against_54 (ne0_lgt (by assumption)) ?_
            refine lv_lload hx hb dX1_against_55 (lv_at hl 4 rfl) ?_
            refine lv_lload hx hb dX1_against_57 (lv_at hl 5 rfl) ?_
            refine lv_ldiv hx hb dX1_against_59 (ne0_lgt (by assumption)) ?_
            refine fr_callIS (As := [.long (i1 / i2), .long (i3 / i4)]) (rest := []) C w kf_J13_compare_74951 mw_21_11 (c_J13_compare_74951 l D cI cJ (i1 / i2) (i3 / i4)) ⟨Nat.le_of_ble_eq_true rfl, Nat.le_of_ble_eq_true rfl⟩ ⟨Nat.le_refl 0, Nat.le_refl 0⟩ [] rfl rfl rfl (ws' := [(ag, .inr (1, [.long ga, .long gb])), (ag2, .inr (1, [.long gc, .long gd]))]) rfl rfl hl.1 rfl (Nat.le_of_ble_eq_true rfl) dX1_against_60 (fun H locs w => ?_)
            refine lv_istore (lv' := [(12, .int (f_J13_compare_74951 (i1 / i2) (i3 / i4))), (0, .ref ag), (1, .ref ag2), (2, .long i1), (4, .long i2), (6, .long i3), (8, .long i4), (10, .int i5), (11, .int i6)]) hx hb dX1_against_63 hl (by decide) rfl (fun ls hl => ?_)
            refine lv_lload_n hx hb dX1_against_65 rfl (lv_at hl 3 rfl) ?_
            refine lv_lload hx hb dX1_against_66 (lv_at hl 4 rfl) ?_
            refine lv_lrem hx hb dX1_against_68 (ne0_lgt (by assumption)) ?_
            refine lv_lstore (lv' := [(13, .long (i1 - i1 / i2 * i2)), (12, .int (f_J13_compare_74951 (i1 / i2) (i3 / i4))), (0, .ref ag), (1, .ref ag2), (2, .long i1), (4, .long i2), (6, .long i3), (8, .long i4), (10, .int i5), (11, .int i6)]) hx hb dX1_against_69 hl (by decide) rfl (fun ls hl => ?_)
            refine lv_lload hx hb dX1_against_71 (lv_at hl 6 rfl) ?_
            refine lv_lload hx hb dX1_against_73 (lv_at hl 7 rfl) ?_
            refine lv_lrem hx hb dX1_against_75 (ne0_lgt (by assumption)) ?_
            refine lv_lstore (lv' := [(15, .long (i3 - i3 / i4 * i4)), (13, .long (i1 - i1 / i2 * i2)), (12, .int (f_J13_compare_74951 (i1 / i2) (i3 / i4))), (0, .ref ag), (1, .ref ag2), (2, .long i1), (4, .long i2), (6, .long i3), (8, .long i4), (10, .int i5), (11, .int i6)]) hx hb dX1_against_76 hl (by decide) rfl (fun ls hl => ?_)
            refine lv_iload hx hb dX1_against_78 (lv_at hl 2 rfl) ?_
            refine lv_if_eq (tgt := 89) hx hb dX1_against_80 (by decide) (fun c80_10 => ?_) (fun c80_10 => ?_)
            · have hr := (if_pos c80_10).symm.trans hr
              refine lv_lload hx hb dX1_against_89 (lv_at hl 1 rfl) ?_
              refine lv_lconst (v := 0) hx hb dX1_against_91 (by decide) ?_
              refine fr_leq (tgt := 103) hx hb dX1_against_92 dX1_against_93 (by decide) (fun c93_11 => ?_) (fun c93_11 => ?_)
              · have hr := (if_pos c93_11).symm.trans hr
                refine lv_iload hx hb dX1_against_103 (lv_at hl 9 rfl) ?_
                refine lv_lload hx hb dX1_against_105 (lv_at hl 1 rfl) ?_
                refine lv_lload hx hb dX1_against_107 (lv_at hl 0 rfl) ?_
                refine fr_callIS (As := [.long (i1 - i1 / i2 * i2), .long (i3 - i3 / i4 * i4)]) (rest := [.int i5]) C w kf_J13_compare_74951 mw_21_11 (c_J13_compare_74951 l D cI cJ (i1 - i1 / i2 * i2) (i3 - i3 / i4 * i4)) ⟨Nat.le_of_ble_eq_true rfl, Nat.le_of_ble_eq_true rfl⟩ ⟨Nat.le_refl 0, Nat.le_refl 0⟩ [] rfl rfl rfl (ws' := [(ag, .inr (1, [.long ga, .long gb])), (ag2, .inr (1, [.long gc, .long gd]))]) rfl rfl hl.1 rfl (Nat.le_of_ble_eq_true rfl) dX1_against_109 (fun H locs w => ?_)
                refine lv_imul hx hb dX1_against_112 ?_
                subst hr hQ
                exact fr_iret (W0 := []) C hret hlk w rfl rfl rfl dX1_against_113
              · have hr := (if_neg c93_11).symm.trans hr
                refine lv_lload hx hb dX1_against_96 (lv_at hl 0 rfl) ?_
                refine lv_lconst (v := 0) hx hb dX1_against_98 (by decide) ?_
                refine fr_lne (tgt := 114) hx hb dX1_against_99 dX1_against_100 (by decide) (fun c100_12 => ?_) (fun c100_12 => ?_)
                · have hr := (if_neg c100_12).symm.trans hr
                  refine lv_lload hx hb dX1_against_114 (lv_at hl 6 rfl) ?_
                  refine lv_lstore_n (lv' := [(2, .long i2), (15, .long (i3 - i3 / i4 * i4)), (13, .long (i1 - i1 / i2 * i2)), (12, .int (f_J13_compare_74951 (i1 / i2) (i3 / i4))), (0, .ref ag), (1, .ref ag2), (4, .long i2), (6, .long i3), (8, .long i4), (10, .int i5), (11, .int i6)]) hx hb dX1_against_116 rfl hl (by decide) rfl (fun ls hl => ?_)
                  refine lv_lload hx hb dX1_against_117 (lv_at hl 2 rfl) ?_
                  refine lv_lstore (lv' := [(4, .long (i1 - i1 / i2 * i2)), (2, .long i2), (15, .long (i3 - i3 / i4 * i4)), (13, .long (i1 - i1 / i2 * i2)), (12, .int (f_J13_compare_74951 (i1 / i2) (i3 / i4))), (0, .ref ag), (1, .ref ag2), (6, .long i3), (8, .long i4), (10, .int i5), (11, .int i6)]) hx hb dX1_against_119 hl (by decide) rfl (fun ls hl => ?_)
                  refine lv_lload hx hb dX1_against_121 (lv_at hl 8 rfl) ?_
                  refine lv_lstore (lv' := [(6, .long i4), (4, .long (i1 - i1 / i2 * i2)), (2, .long i2), (15, .long (i3 - i3 / i4 * i4)), (13, .long (i1 - i1 / i2 * i2)), (12, .int (f_J13_compare_74951 (i1 / i2) (i3 / i4))), (0, .ref ag), (1, .ref ag2), (8, .long i4), (10, .int i5), (11, .int i6)]) hx hb dX1_against_123 hl (by decide) rfl (fun ls hl => ?_)
                  refine lv_lload hx hb dX1_against_125 (lv_at hl 3 rfl) ?_
                  refine lv_lstore (lv' := [(8, .long (i3 - i3 / i4 * i4)), (6, .long i4), (4, .long (i1 - i1 / i2 * i2)), (2, .long i2), (15, .long (i3 - i3 / i4 * i4)), (13, .long (i1 - i1 / i2 * i2)), (12, .int (f_J13_compare_74951 (i1 / i2) (i3 / i4))), (0, .ref ag), (1, .ref ag2), (10, .int i5), (11, .int i6)]) hx hb dX1_against_127 hl (by decide) rfl (fun ls hl => ?_)
                  refine lv_iload hx hb dX1_against_129 (lv_at hl 9 rfl) ?_
                  refine lv_ineg hx hb dX1_against_131 ?_
                  refine lv_istore (lv' := [(10, .int (-i5)), (8, .long (i3 - i3 / i4 * i4)), (6, .long i4), (4, .long (i1 - i1 / i2 * i2)), (2, .long i2), (15, .long (i3 - i3 / i4 * i4)), (13, .long (i1 - i1 / i2 * i2)), (12, .int (f_J13_compare_74951 (i1 / i2) (i3 / i4))), (0, .ref ag), (1, .ref ag2), (11, .int i6)]) hx hb dX1_against_132 hl (by decide) rfl (fun ls hl => ?_)
                  refine lv_iinc (v := i6 + 1) (lv' := [(11, .int (i6 + 1)), (10, .int (-i5)), (8, .long (i3 - i3 / i4 * i4)), (6, .long i4), (4, .long (i1 - i1 / i2 * i2)), (2, .long i2), (15, .long (i3 - i3 / i4 * i4)), (13, .long (i1 - i1 / i2 * i2)), (12, .int (f_J13_compare_74951 (i1 / i2) (i3 / i4))), (0, .ref ag), (1, .ref ag2)]) hx hb dX1_against_134 hl (k := 10) rfl rfl (by decide) rfl (fun ls hl => ?_)
                  refine lv_goto (tgt := 29) hx hb dX1_against_137 (by decide) ?_
                  exact ih29 (k29 + 1) i2 (i1 - i1 / i2 * i2) i4 (i3 - i3 / i4 * i4) (-i5) (i6 + 1) (by rw [hk29]; exact nI_1 k29) (by omega) (by omega) hr H locs w ls (lv_sub hl [9, 10, 5, 4, 3, 2, 1, 0] rfl)
                · have hr := (if_pos c100_12).symm.trans hr
                  refine lv_iload hx hb dX1_against_103 (lv_at hl 9 rfl) ?_
                  refine lv_lload hx hb dX1_against_105 (lv_at hl 1 rfl) ?_
                  refine lv_lload hx hb dX1_against_107 (lv_at hl 0 rfl) ?_
                  refine fr_callIS (As := [.long (i1 - i1 / i2 * i2), .long (i3 - i3 / i4 * i4)]) (rest := [.int i5]) C w kf_J13_compare_74951 mw_21_11 (c_J13_compare_74951 l D cI cJ (i1 - i1 / i2 * i2) (i3 - i3 / i4 * i4)) ⟨Nat.le_of_ble_eq_true rfl, Nat.le_of_ble_eq_true rfl⟩ ⟨Nat.le_refl 0, Nat.le_refl 0⟩ [] rfl rfl rfl (ws' := [(ag, .inr (1, [.long ga, .long gb])), (ag2, .inr (1, [.long gc, .long gd]))]) rfl rfl hl.1 rfl (Nat.le_of_ble_eq_true rfl) dX1_against_109 (fun H locs w => ?_)
                  refine lv_imul hx hb dX1_against_112 ?_
                  subst hr hQ
                  exact fr_iret (W0 := []) C hret hlk w rfl rfl rfl dX1_against_113
            · have hr := (if_neg c80_10).symm.trans hr
              refine lv_iload hx hb dX1_against_83 (lv_at hl 9 rfl) ?_
              refine lv_iload hx hb dX1_against_85 (lv_at hl 2 rfl) ?_
              refine lv_imul hx hb dX1_against_87 ?_
              subst hr hQ
              exact fr_iret (W0 := []) C hret hlk w rfl rfl rfl dX1_against_88
  exact LP29 201 0 ga gb gc gd 1 0 (by decide) (by omega) (by omega) hr H locs w ls (lv_sub hl [6, 7, 5, 4, 3, 2, 1, 0] rfl)
