theorem mw_13_10 : Cond.methodLink RX6 110 yX6_powerOfTen ∈ wsL_law := ck_13 _ (List.mem_of_getElem? (i := 10) rfl)
theorem mw_13_12 : Cond.code yX6_powerOfTen cX6_powerOfTen 3 (some .int) ∈ wsL_law := ck_13 _ (List.mem_of_getElem? (i := 12) rfl)
theorem mw_13_11 : Cond.static yX6_powerOfTen ∈ wsL_law := ck_13 _ (List.mem_of_getElem? (i := 11) rfl)
theorem mw_13_13 : Cond.methodLink RX6 113 yX6_figureSum ∈ wsL_law := ck_13 _ (List.mem_of_getElem? (i := 13) rfl)
theorem mw_13_15 : Cond.code yX6_figureSum cX6_figureSum 4 (some .int) ∈ wsL_law := ck_13 _ (List.mem_of_getElem? (i := 15) rfl)
theorem mw_13_14 : Cond.static yX6_figureSum ∈ wsL_law := ck_13 _ (List.mem_of_getElem? (i := 14) rfl)
theorem mw_13_16 : Cond.methodLink RX6 116 yX2_heldByParts ∈ wsL_law := ck_13 _ (List.mem_of_getElem? (i := 16) rfl)
theorem mw_13_19 : Cond.code yX2_heldByParts cX2_heldByParts 6 (some .int) ∈ wsL_law := ck_13 _ (List.mem_of_getElem? (i := 19) rfl)
theorem mw_13_17 : Cond.instanceMethod yX2_heldByParts ∈ wsL_law := ck_13 _ (List.mem_of_getElem? (i := 17) rfl)
theorem mw_13_18 : Cond.selects RX2 yX2_heldByParts yX2_heldByParts ∈ wsL_law := ck_13 _ (List.mem_of_getElem? (i := 18) rfl)
theorem mw_14_0 : Cond.methodLink RX6 124 yX6_quotient ∈ wsL_law := ck_14 _ (List.mem_of_getElem? (i := 0) rfl)
theorem mw_14_2 : Cond.code yX6_quotient cX6_quotient 2 (some .int) ∈ wsL_law := ck_14 _ (List.mem_of_getElem? (i := 2) rfl)
theorem mw_14_1 : Cond.static yX6_quotient ∈ wsL_law := ck_14 _ (List.mem_of_getElem? (i := 1) rfl)
theorem mw_13_21 : Cond.methodLink RX6 120 yX6_isMultiple ∈ wsL_law := ck_13 _ (List.mem_of_getElem? (i := 21) rfl)
theorem mw_13_23 : Cond.code yX6_isMultiple cX6_isMultiple 2 (some .boolean) ∈ wsL_law := ck_13 _ (List.mem_of_getElem? (i := 23) rfl)
theorem mw_13_22 : Cond.static yX6_isMultiple ∈ wsL_law := ck_13 _ (List.mem_of_getElem? (i := 22) rfl)
theorem mw_14_15 : Cond.constantLong RX6 133 (-1000001) ∈ wsL_law := ck_14 _ (List.mem_of_getElem? (i := 15) rfl)
theorem mw_15_13 : Cond.methodLink RX6 135 yX2_isUsed ∈ wsL_law := ck_15 _ (List.mem_of_getElem? (i := 13) rfl)
theorem mw_15_16 : Cond.code yX2_isUsed cX2_isUsed 2 (some .boolean) ∈ wsL_law := ck_15 _ (List.mem_of_getElem? (i := 16) rfl)
theorem mw_15_14 : Cond.instanceMethod yX2_isUsed ∈ wsL_law := ck_15 _ (List.mem_of_getElem? (i := 14) rfl)
theorem mw_15_15 : Cond.selects RX2 yX2_isUsed yX2_isUsed ∈ wsL_law := ck_15 _ (List.mem_of_getElem? (i := 15) rfl)
theorem mw_15_21 : Cond.methodLink RX6 138 yX2_firstAlike ∈ wsL_law := ck_15 _ (List.mem_of_getElem? (i := 21) rfl)
theorem mw_16_0 : Cond.code yX2_firstAlike cX2_firstAlike 4 (some .int) ∈ wsL_law := ck_16 _ (List.mem_of_getElem? (i := 0) rfl)
theorem mw_15_22 : Cond.instanceMethod yX2_firstAlike ∈ wsL_law := ck_15 _ (List.mem_of_getElem? (i := 22) rfl)
theorem mw_15_23 : Cond.selects RX2 yX2_firstAlike yX2_firstAlike ∈ wsL_law := ck_15 _ (List.mem_of_getElem? (i := 23) rfl)
theorem mw_28_14 : Cond.fieldLink RX6 189 "MudShares$Mud" "tracerCount" "I" ∈ wsL_law := ck_28 _ (List.mem_of_getElem? (i := 14) rfl)
theorem fg_X6_189 : FG RX6 189 2 3 := ⟨RX2, TX2, 4, rfl, by decide, inlX2, mw_28_14⟩
theorem kf_X6_powerOfTen : KS yX6_powerOfTen cX6_powerOfTen 3 (some .int) 1 := ⟨mw_13_12, mw_13_11, mw_1_2, by decide, by decide, by decide +kernel⟩
theorem kf_X6_figureSum : KS yX6_figureSum cX6_figureSum 4 (some .int) 1 := ⟨mw_13_15, mw_13_14, mw_1_2, by decide, by decide, by decide +kernel⟩
theorem kf_X2_heldByParts : KV RX2 yX2_heldByParts cX2_heldByParts 6 (some .int) 2 := ⟨mw_13_19, mw_13_17, mw_13_18, mw_1_22, by decide, by decide, by decide +kernel⟩
theorem kf_X6_quotient : KS yX6_quotient cX6_quotient 2 (some .int) 2 := ⟨mw_14_2, mw_14_1, mw_1_2, by decide, by decide, by decide +kernel⟩
theorem kf_X6_isMultiple : KS yX6_isMultiple cX6_isMultiple 2 (some .boolean) 2 := ⟨mw_13_23, mw_13_22, mw_1_2, by decide, by decide, by decide +kernel⟩
theorem kf_X2_isUsed : KV RX2 yX2_isUsed cX2_isUsed 2 (some .boolean) 1 := ⟨mw_15_16, mw_15_14, mw_15_15, mw_1_22, by decide, by decide, by decide +kernel⟩
theorem kf_X2_firstAlike : KV RX2 yX2_firstAlike cX2_firstAlike 4 (some .int) 2 := ⟨mw_16_0, mw_15_22, mw_15_23, mw_1_22, by decide, by decide, by decide +kernel⟩
def L_X6_made_77 (q1 : Int32) : Nat → Int32 → (Nat → Int32) → Int32 × (Nat → Int32)
  | 0, _, _ => (0, fun _ => 0)
  | n77 + 1, i6, w7 => (if 4 ≤ i6 then (i6, w7) else L_X6_made_77 q1 n77 (i6 + 1) (f_X2_putHeld w7 4 i6 (f_X6_quotient (f_X2_heldByParts w7 i6 q1) (f_X6_figureSum q1))))
def L_X6_made_44 (xal : Int64) (xhd : Nat → Int32) (q1 : Int32) : Nat → Int32 → Int64 × Int64 × (Nat → Int32)
  | 0, _ => (0, 0, fun _ => 0)
  | n44 + 1, i4 => (if 4 ≤ i4 then ((fun (y77 : Int32 × (Nat → Int32)) => ((Int32.toInt64 (f_X6_figureSum q1)), xal + 1, y77.2)) (L_X6_made_77 q1 5 0 xhd)) else (if (f_X6_isMultiple (f_X2_heldByParts xhd i4 q1) (f_X6_figureSum q1)) = 0 then ((-1000004), xal, xhd) else L_X6_made_44 xal xhd q1 n44 (i4 + 1)))
def f_X6_made (xal : Int64) (xsc : Int32) (xhd : Nat → Int32) (q1 : Int32) : Int64 × Int64 × (Nat → Int32) := (if xsc = 0 then ((-1000004), xal, xhd) else (if q1 < 1 then ((-1000003), xal, xhd) else (if q1 < (f_X6_powerOfTen xsc) then L_X6_made_44 xal xhd q1 5 0 else ((-1000003), xal, xhd))))
set_option maxRecDepth 100000 in
set_option maxHeartbeats 4000000 in
theorem c_X6_made (l : Launch) (D : va_G) (cI cJ : ClassId) (ax ap ar au an ato apc ard af anq afp afm afs aft afq auh auw : Nat) (xrd : Int64) (xal : Int64) (xta : Int64) (xtb : Int64) (xpl : Int32) (xpc : Nat → Int32) (xso : Int32) (xtr : Int32) (xwi : Int32) (xnu : Int32) (xdr : Nat → Int32) (xns : Int32) (xnc : Int32) (xna : Int64) (xnb : Int64) (xfs : Int32) (xba : Int32) (xbe : Int64) (xpr : Nat → Int64) (xmx : Nat → Int64) (xsd : Nat → Int64) (xpt : Nat → Int64) (xfa : Int64) (xfb : Int64) (xsc : Int32) (xtc : Int32) (xhd : Nat → Int32) (xwt : Nat → Int32) (q1 : Int32) : CL l yX6_made cX6_made 4 3 D cI cJ [.ref ax, .int q1] [(ax, .inr (6, [.ref ap, .ref ar, .ref au, .ref an, .ref ato, .long xrd, .long xal])), (ato, .inr (1, [.long xta, .long xtb])), (ap, .inr (4, [.ref apc, .int xpl])), (apc, .inl (cI, 47, .inl xpc)), (ar, .inr (5, [.ref ard, .int xso, .int xtr, .int xwi, .int xnu])), (ard, .inl (cI, 16, .inl xdr)), (an, .inr (3, [.ref af, .ref anq, .int xns, .int xnc])), (anq, .inr (1, [.long xna, .long xnb])), (af, .inr (0, [.ref afp, .ref afm, .ref afs, .ref aft, .ref afq, .int xfs, .int xba, .long xbe])), (afp, .inl (cJ, 25, .inr (.inl xpr))), (afm, .inl (cJ, 9, .inr (.inl xmx))), (afs, .inl (cJ, 3, .inr (.inl xsd))), (aft, .inl (cJ, 4, .inr (.inl xpt))), (afq, .inr (1, [.long xfa, .long xfb])), (au, .inr (2, [.ref auh, .ref auw, .int xsc, .int xtc])), (auh, .inl (cI, 20, .inl xhd)), (auw, .inl (cI, 4, .inl xwt))] [(ax, .inr (6, [.ref ap, .ref ar, .ref au, .ref an, .ref ato, .long xrd, .long ((f_X6_made xal xsc xhd q1).2.1)])), (ato, .inr (1, [.long xta, .long xtb])), (ap, .inr (4, [.ref apc, .int xpl])), (apc, .inl (cI, 47, .inl xpc)), (ar, .inr (5, [.ref ard, .int xso, .int xtr, .int xwi, .int xnu])), (ard, .inl (cI, 16, .inl xdr)), (an, .inr (3, [.ref af, .ref anq, .int xns, .int xnc])), (anq, .inr (1, [.long xna, .long xnb])), (af, .inr (0, [.ref afp, .ref afm, .ref afs, .ref aft, .ref afq, .int xfs, .int xba, .long xbe])), (afp, .inl (cJ, 25, .inr (.inl xpr))), (afm, .inl (cJ, 9, .inr (.inl xmx))), (afs, .inl (cJ, 3, .inr (.inl xsd))), (aft, .inl (cJ, 4, .inr (.inl xpt))), (afq, .inr (1, [.long xfa, .long xfb])), (au, .inr (2, [.ref auh, .ref auw, .int xsc, .int xtc])), (auh, .inl (cI, 20, .inl ((f_X6_made xal xsc xhd q1).2.2))), (auw, .inl (cI, 4, .inl xwt))] ((f_X6_made xal xsc xhd q1).1) := by
  generalize hr : f_X6_made xal xsc xhd q1 = r
  refine fr_entryL (by decide) rfl ?_
  intro p e s m args below meth c A Q H locs hQ C hret hlk w ls hl
  have hx := C.1
  have hb := C.2.1
  have hl : lv_has ls 4 [(0, .ref ax), (1, .int q1)] := hl
  have hr : (if xsc = 0 then ((-1000004), xal, xhd) else (if q1 < 1 then ((-1000003), xal, xhd) else (if q1 < (f_X6_powerOfTen xsc) then L_X6_made_44 xal xhd q1 5 0 else ((-1000003), xal, xhd)))) = r := hr
  refine lv_aload_n hx hb dX6_made_0 rfl (lv_at hl 0 rfl) ?_
  refine fr_get C w fg_X6_26 0 rfl rfl dX6_made_1 ?_
  refine fr_get C w fg_X6_80 14 rfl rfl dX6_made_4 ?_
  refine lv_if_ne (tgt := 14) hx hb dX6_made_7 (by decide) (fun c7_1 => ?_) (fun c7_1 => ?_)
  · have hr := (if_neg c7_1).symm.trans hr
    refine lv_iload_n hx hb dX6_made_14 rfl (lv_at hl 1 rfl) ?_
    refine lv_iconst (v := 1) hx hb dX6_made_15 (by decide) ?_
    refine lv_icmp_lt (tgt := 33) hx hb dX6_made_16 (by decide) (fun c16_2 => ?_) (fun c16_2 => ?_)
    · have hr := (if_pos c16_2).symm.trans hr
      refine lv_ldc2 hx hb C.2.2.2.1 (C.2.2.2.2.1 _ mw_4_23) dX6_made_33 ?_
      subst hr hQ
      exact fr_lret C hret hlk w rfl rfl dX6_made_36
    · have hr := (if_neg c16_2).symm.trans hr
      refine lv_iload_n hx hb dX6_made_19 rfl (lv_at hl 1 rfl) ?_
      refine lv_aload_n hx hb dX6_made_20 rfl (lv_at hl 0 rfl) ?_
      refine fr_get C w fg_X6_26 0 rfl rfl dX6_made_21 ?_
      refine fr_get C w fg_X6_80 14 rfl rfl dX6_made_24 ?_
      refine fr_callIS (As := [.int xsc]) (rest := [.int q1]) C w kf_X6_powerOfTen mw_13_10 (c_X6_powerOfTen l D cI cJ xsc) ⟨Nat.le_of_ble_eq_true rfl, Nat.le_of_ble_eq_true rfl⟩ ⟨Nat.le_refl 0, Nat.le_refl 0⟩ [] rfl rfl rfl (ws' := [(ax, .inr (6, [.ref ap, .ref ar, .ref au, .ref an, .ref ato, .long xrd, .long xal])), (ato, .inr (1, [.long xta, .long xtb])), (ap, .inr (4, [.ref apc, .int xpl])), (apc, .inl (cI, 47, .inl xpc)), (ar, .inr (5, [.ref ard, .int xso, .int xtr, .int xwi, .int xnu])), (ard, .inl (cI, 16, .inl xdr)), (an, .inr (3, [.ref af, .ref anq, .int xns, .int xnc])), (anq, .inr (1, [.long xna, .long xnb])), (af, .inr (0, [.ref afp, .ref afm, .ref afs, .ref aft, .ref afq, .int xfs, .int xba, .long xbe])), (afp, .inl (cJ, 25, .inr (.inl xpr))), (afm, .inl (cJ, 9, .inr (.inl xmx))), (afs, .inl (cJ, 3, .inr (.inl xsd))), (aft, .inl (cJ, 4, .inr (.inl xpt))), (afq, .inr (1, [.long xfa, .long xfb])), (au, .inr (2, [.ref auh, .ref auw, .int xsc, .int xtc])), (auh, .inl (cI, 20, .inl xhd)), (auw, .inl (cI, 4, .inl xwt))]) rfl rfl hl.1 rfl (Nat.le_of_ble_eq_true rfl) dX6_made_27 (fun H locs w => ?_)
      refine lv_icmp_lt (tgt := 37) hx hb dX6_made_30 (by decide) (fun c30_3 => ?_) (fun c30_3 => ?_)
      · have hr := (if_pos c30_3).symm.trans hr
        refine lv_iload_n hx hb dX6_made_37 rfl (lv_at hl 1 rfl) ?_
        refine fr_callIS (As := [.int q1]) (rest := []) C w kf_X6_figureSum mw_13_13 (c_X6_figureSum l D cI cJ q1) ⟨Nat.le_of_ble_eq_true rfl, Nat.le_of_ble_eq_true rfl⟩ ⟨Nat.le_refl 0, Nat.le_refl 0⟩ [] rfl rfl rfl (ws' := [(ax, .inr (6, [.ref ap, .ref ar, .ref au, .ref an, .ref ato, .long xrd, .long xal])), (ato, .inr (1, [.long xta, .long xtb])), (ap, .inr (4, [.ref apc, .int xpl])), (apc, .inl (cI, 47, .inl xpc)), (ar, .inr (5, [.ref ard, .int xso, .int xtr, .int xwi, .int xnu])), (ard, .inl (cI, 16, .inl xdr)), (an, .inr (3, [.ref af, .ref anq, .int xns, .int xnc])), (anq, .inr (1, [.long xna, .long xnb])), (af, .inr (0, [.ref afp, .ref afm, .ref afs, .ref aft, .ref afq, .int xfs, .int xba, .long xbe])), (afp, .inl (cJ, 25, .inr (.inl xpr))), (afm, .inl (cJ, 9, .inr (.inl xmx))), (afs, .inl (cJ, 3, .inr (.inl xsd))), (aft, .inl (cJ, 4, .inr (.inl xpt))), (afq, .inr (1, [.long xfa, .long xfb])), (au, .inr (2, [.ref auh, .ref auw, .int xsc, .int xtc])), (auh, .inl (cI, 20, .inl xhd)), (auw, .inl (cI, 4, .inl xwt))]) rfl rfl hl.1 rfl (Nat.le_of_ble_eq_true rfl) dX6_made_38 (fun H locs w => ?_)
        refine lv_istore_n (lv' := [(2, .int (f_X6_figureSum q1)), (0, .ref ax), (1, .int q1)]) hx hb dX6_made_41 rfl hl (by decide) rfl (fun ls hl => ?_)
        refine lv_iconst (v := 0) hx hb dX6_made_42 (by decide) ?_
        refine lv_istore_n (lv' := [(3, .int 0), (2, .int (f_X6_figureSum q1)), (0, .ref ax), (1, .int q1)]) hx hb dX6_made_43 rfl hl (by decide) rfl (fun ls hl => ?_)
        have LP44 : ∀ (n44 : Nat) (k44 : Nat) (i4 : Int32), i4 = nI k44 → k44 ≤ 4 → 4 < k44 + n44 → L_X6_made_44 xal xhd q1 n44 i4 = r → ∀ (H : Heap) (locs : List Loc), Wd D A s.heap H locs [(ax, .inr (6, [.ref ap, .ref ar, .ref au, .ref an, .ref ato, .long xrd, .long xal])), (ato, .inr (1, [.long xta, .long xtb])), (ap, .inr (4, [.ref apc, .int xpl])), (apc, .inl (cI, 47, .inl xpc)), (ar, .inr (5, [.ref ard, .int xso, .int xtr, .int xwi, .int xnu])), (ard, .inl (cI, 16, .inl xdr)), (an, .inr (3, [.ref af, .ref anq, .int xns, .int xnc])), (anq, .inr (1, [.long xna, .long xnb])), (af, .inr (0, [.ref afp, .ref afm, .ref afs, .ref aft, .ref afq, .int xfs, .int xba, .long xbe])), (afp, .inl (cJ, 25, .inr (.inl xpr))), (afm, .inl (cJ, 9, .inr (.inl xmx))), (afs, .inl (cJ, 3, .inr (.inl xsd))), (aft, .inl (cJ, 4, .inr (.inl xpt))), (afq, .inr (1, [.long xfa, .long xfb])), (au, .inr (2, [.ref auh, .ref auw, .int xsc, .int xtc])), (auh, .inl (cI, 20, .inl xhd)), (auw, .inl (cI, 4, .inl xwt))] → ∀ (ls : Array Slot), lv_has ls 4 [(0, .ref ax), (1, .int q1), (2, .int (f_X6_figureSum q1)), (3, .int i4)] → W p l e (rl 3) s m args below meth c H locs 0 0 Q (F0 m 44 ls []) := by
          skip
          intro n44
          induction n44 with
          | zero => intro k44 i4 hk44 hkN44 hn44; exact absurd hn44 (by omega)
          | succ n44 ih44 =>
            intro k44 i4 hk44 hkN44 hn44 hr H locs w ls hl
            have hr : (if 4 ≤ i4 then ((fun (y77 : Int32 × (Nat → Int32)) => ((Int32.toInt64 (f_X6_figureSum q1)), xal + 1, y77.2)) (L_X6_made_77 q1 5 0 xhd)) else (if (f_X6_isMultiple (f_X2_heldByParts xhd i4 q1) (f_X6_figureSum q1)) = 0 then ((-1000004), xal, xhd) else L_X6_made_44 xal xhd q1 n44 (i4 + 1))) = r := hr
            refine lv_iload_n hx hb dX6_made_44 rfl (lv_at hl 3 rfl) ?_
            refine lv_iconst (v := 4) hx hb dX6_made_45 (by decide) ?_
            refine lv_icmp_ge (tgt := 75) hx hb dX6_made_46 (by decide) (fun c46_5 => ?_) (fun c46_5 => ?_)
            · have hr := (if_pos c46_5).symm.trans hr
              refine lv_iconst (v := 0) hx hb dX6_made_75 (by decide) ?_
              refine lv_istore_n (lv' := [(3, .int 0), (0, .ref ax), (1, .int q1), (2, .int (f_X6_figureSum q1))]) hx hb dX6_made_76 rfl hl (by decide) rfl (fun ls hl => ?_)
              obtain ⟨y77, hy77⟩ : ∃ y, y = L_X6_made_77 q1 5 0 xhd := ⟨_, rfl⟩
              have hr : ((Int32.toInt64 (f_X6_figureSum q1)), xal + 1, y77.2) = r := by rw [hy77]; exact hr
              have X77 : ∀ (H : Heap) (locs : List Loc), Wd D A s.heap H locs [(ax, .inr (6, [.ref ap, .ref ar, .ref au, .ref an, .ref ato, .long xrd, .long xal])), (ato, .inr (1, [.long xta, .long xtb])), (ap, .inr (4, [.ref apc, .int xpl])), (apc, .inl (cI, 47, .inl xpc)), (ar, .inr (5, [.ref ard, .int xso, .int xtr, .int xwi, .int xnu])), (ard, .inl (cI, 16, .inl xdr)), (an, .inr (3, [.ref af, .ref anq, .int xns, .int xnc])), (anq, .inr (1, [.long xna, .long xnb])), (af, .inr (0, [.ref afp, .ref afm, .ref afs, .ref aft, .ref afq, .int xfs, .int xba, .long xbe])), (afp, .inl (cJ, 25, .inr (.inl xpr))), (afm, .inl (cJ, 9, .inr (.inl xmx))), (afs, .inl (cJ, 3, .inr (.inl xsd))), (aft, .inl (cJ, 4, .inr (.inl xpt))), (afq, .inr (1, [.long xfa, .long xfb])), (au, .inr (2, [.ref auh, .ref auw, .int xsc, .int xtc])), (auh, .inl (cI, 20, .inl y77.2)), (auw, .inl (cI, 4, .inl xwt))] → ∀ (ls : Array Slot), lv_has ls 4 [(0, .ref ax), (1, .int q1), (2, .int (f_X6_figureSum q1)), (3, .int y77.1)] → W p l e (rl 3) s m args below meth c H locs 0 0 Q (F0 m 110 ls []) := by
                intro H locs w ls hl
                refine lv_aload_n hx hb dX6_made_110 rfl (lv_at hl 0 rfl) ?_
                refine lv_dup hx hb dX6_made_111 rfl ?_
                refine fr_get C w fg_X6_104 0 rfl rfl dX6_made_112 ?_
                refine lv_lconst (v := 1) hx hb dX6_made_115 (by decide) ?_
                refine lv_ladd hx hb dX6_made_116 ?_
                refine fr_put C w fp_X6_104 0 rfl rfl rfl rfl (ws' := [(ax, .inr (6, [.ref ap, .ref ar, .ref au, .ref an, .ref ato, .long xrd, .long (xal + 1)])), (ato, .inr (1, [.long xta, .long xtb])), (ap, .inr (4, [.ref apc, .int xpl])), (apc, .inl (cI, 47, .inl xpc)), (ar, .inr (5, [.ref ard, .int xso, .int xtr, .int xwi, .int xnu])), (ard, .inl (cI, 16, .inl xdr)), (an, .inr (3, [.ref af, .ref anq, .int xns, .int xnc])), (anq, .inr (1, [.long xna, .long xnb])), (af, .inr (0, [.ref afp, .ref afm, .ref afs, .ref aft, .ref afq, .int xfs, .int xba, .long xbe])), (afp, .inl (cJ, 25, .inr (.inl xpr))), (afm, .inl (cJ, 9, .inr (.inl xmx))), (afs, .inl (cJ, 3, .inr (.inl xsd))), (aft, .inl (cJ, 4, .inr (.inl xpt))), (afq, .inr (1, [.long xfa, .long xfb])), (au, .inr (2, [.ref auh, .ref auw, .int xsc, .int xtc])), (auh, .inl (cI, 20, .inl y77.2)), (auw, .inl (cI, 4, .inl xwt))]) rfl dX6_made_117 (fun H locs w => ?_)
                refine lv_iload_n hx hb dX6_made_120 rfl (lv_at hl 2 rfl) ?_
                refine lv_i2l (v := (Int32.toInt64 (f_X6_figureSum q1))) hx hb dX6_made_121 rfl ?_
                subst hr hQ
                exact fr_lret C hret hlk w rfl rfl dX6_made_122
              have LP77 : ∀ (n77 : Nat) (k77 : Nat) (i6 : Int32) (w7 : Nat → Int32), i6 = nI k77 → k77 ≤ 4 → 4 < k77 + n77 → L_X6_made_77 q1 n77 i6 w7 = y77 → ∀ (H : Heap) (locs : List Loc), Wd D A s.heap H locs [(ax, .inr (6, [.ref ap, .ref ar, .ref au, .ref an, .ref ato, .long xrd, .long xal])), (ato, .inr (1, [.long xta, .long xtb])), (ap, .inr (4, [.ref apc, .int xpl])), (apc, .inl (cI, 47, .inl xpc)), (ar, .inr (5, [.ref ard, .int xso, .int xtr, .int xwi, .int xnu])), (ard, .inl (cI, 16, .inl xdr)), (an, .inr (3, [.ref af, .ref anq, .int xns, .int xnc])), (anq, .inr (1, [.long xna, .long xnb])), (af, .inr (0, [.ref afp, .ref afm, .ref afs, .ref aft, .ref afq, .int xfs, .int xba, .long xbe])), (afp, .inl (cJ, 25, .inr (.inl xpr))), (afm, .inl (cJ, 9, .inr (.inl xmx))), (afs, .inl (cJ, 3, .inr (.inl xsd))), (aft, .inl (cJ, 4, .inr (.inl xpt))), (afq, .inr (1, [.long xfa, .long xfb])), (au, .inr (2, [.ref auh, .ref auw, .int xsc, .int xtc])), (auh, .inl (cI, 20, .inl w7)), (auw, .inl (cI, 4, .inl xwt))] → ∀ (ls : Array Slot), lv_has ls 4 [(0, .ref ax), (1, .int q1), (2, .int (f_X6_figureSum q1)), (3, .int i6)] → W p l e (rl 3) s m args below meth c H locs 0 0 Q (F0 m 77 ls []) := by
                clear hr
                intro n77
                induction n77 with
                | zero => intro k77 i6 w7 hk77 hkN77 hn77; exact absurd hn77 (by omega)
                | succ n77 ih77 =>
                  intro k77 i6 w7 hk77 hkN77 hn77 hr H locs w ls hl
                  have hr : (if 4 ≤ i6 then (i6, w7) else L_X6_made_77 q1 n77 (i6 + 1) (f_X2_putHeld w7 4 i6 (f_X6_quotient (f_X2_heldByParts w7 i6 q1) (f_X6_figureSum q1)))) = y77 := hr
                  refine lv_iload_n hx hb dX6_made_77 rfl (lv_at hl 3 rfl) ?_
                  refine lv_iconst (v := 4) hx hb dX6_made_78 (by decide) ?_
                  refine lv_icmp_ge (tgt := 110) hx hb dX6_made_79 (by decide) (fun c79_8 => ?_) (fun c79_8 => ?_)
                  · have hr := (if_pos c79_8).symm.trans hr
                    subst hr
                    exact X77 H locs w ls (lv_sub hl [0, 1, 2, 3] rfl)
                  · have hr := (if_neg c79_8).symm.trans hr
                    have hkl77 := kl_of hk77 hkN77 (N := 4) (by decide) (by omega) c79_8
                    refine lv_aload_n hx hb dX6_made_82 rfl (lv_at hl 0 rfl) ?_
                    refine fr_get C w fg_X6_26 0 rfl rfl dX6_made_83 ?_
                    refine lv_iconst (v := 4) hx hb dX6_made_86 (by decide) ?_
                    refine lv_iload_n hx hb dX6_made_87 rfl (lv_at hl 3 rfl) ?_
                    refine lv_aload_n hx hb dX6_made_88 rfl (lv_at hl 0 rfl) ?_
                    refine fr_get C w fg_X6_26 0 rfl rfl dX6_made_89 ?_
                    refine lv_iload_n hx hb dX6_made_92 rfl (lv_at hl 3 rfl) ?_
                    refine lv_iload_n hx hb dX6_made_93 rfl (lv_at hl 1 rfl) ?_
                    refine fr_callIV (As := [.int i6, .int q1]) (rest := [.int i6, .int 4, .ref au]) C w kf_X2_heldByParts mw_13_16 (c_X2_heldByParts l D cI cJ au auh auw xsc xtc w7 xwt i6 q1) ⟨Nat.le_of_ble_eq_true rfl, Nat.le_of_ble_eq_true rfl⟩ ⟨Nat.le_refl 0, Nat.le_refl 0⟩ [14, 15, 16] rfl rfl rfl (ws' := [(ax, .inr (6, [.ref ap, .ref ar, .ref au, .ref an, .ref ato, .long xrd, .long xal])), (ato, .inr (1, [.long xta, .long xtb])), (ap, .inr (4, [.ref apc, .int xpl])), (apc, .inl (cI, 47, .inl xpc)), (ar, .inr (5, [.ref ard, .int xso, .int xtr, .int xwi, .int xnu])), (ard, .inl (cI, 16, .inl xdr)), (an, .inr (3, [.ref af, .ref anq, .int xns, .int xnc])), (anq, .inr (1, [.long xna, .long xnb])), (af, .inr (0, [.ref afp, .ref afm, .ref afs, .ref aft, .ref afq, .int xfs, .int xba, .long xbe])), (afp, .inl (cJ, 25, .inr (.inl xpr))), (afm, .inl (cJ, 9, .inr (.inl xmx))), (afs, .inl (cJ, 3, .inr (.inl xsd))), (aft, .inl (cJ, 4, .inr (.inl xpt))), (afq, .inr (1, [.long xfa, .long xfb])), (au, .inr (2, [.ref auh, .ref auw, .int xsc, .int xtc])), (auh, .inl (cI, 20, .inl w7)), (auw, .inl (cI, 4, .inl xwt))]) rfl rfl rfl rfl hl.1 rfl (Nat.le_of_ble_eq_true rfl) dX6_made_94 (fun H locs w => ?_)
                    refine lv_iload_n hx hb dX6_made_97 rfl (lv_at hl 2 rfl) ?_
                    refine fr_callIS (As := [.int (f_X2_heldByParts w7 i6 q1), .int (f_X6_figureSum q1)]) (rest := [.int i6, .int 4, .ref au]) C w kf_X6_quotient mw_14_0 (c_X6_quotient l D cI cJ (f_X2_heldByParts w7 i6 q1) (f_X6_figureSum q1)) ⟨Nat.le_of_ble_eq_true rfl, Nat.le_of_ble_eq_true rfl⟩ ⟨Nat.le_refl 0, Nat.le_refl 0⟩ [] rfl rfl rfl (ws' := [(ax, .inr (6, [.ref ap, .ref ar, .ref au, .ref an, .ref ato, .long xrd, .long xal])), (ato, .inr (1, [.long xta, .long xtb])), (ap, .inr (4, [.ref apc, .int xpl])), (apc, .inl (cI, 47, .inl xpc)), (ar, .inr (5, [.ref ard, .int xso, .int xtr, .int xwi, .int xnu])), (ard, .inl (cI, 16, .inl xdr)), (an, .inr (3, [.ref af, .ref anq, .int xns, .int xnc])), (anq, .inr (1, [.long xna, .long xnb])), (af, .inr (0, [.ref afp, .ref afm, .ref afs, .ref aft, .ref afq, .int xfs, .int xba, .long xbe])), (afp, .inl (cJ, 25, .inr (.inl xpr))), (afm, .inl (cJ, 9, .inr (.inl xmx))), (afs, .inl (cJ, 3, .inr (.inl xsd))), (aft, .inl (cJ, 4, .inr (.inl xpt))), (afq, .inr (1, [.long xfa, .long xfb])), (au, .inr (2, [.ref auh, .ref auw, .int xsc, .int xtc])), (auh, .inl (cI, 20, .inl w7)), (auw, .inl (cI, 4, .inl xwt))]) rfl rfl hl.1 rfl (Nat.le_of_ble_eq_true rfl) dX6_made_98 (fun H locs w => ?_)
                    refine fr_callVV (As := [.int 4, .int i6, .int (f_X6_quotient (f_X2_heldByParts w7 i6 q1) (f_X6_figureSum q1))]) (rest := []) C w kf_X2_putHeld mw_11_16 (c_X2_putHeld l D cI cJ au auh auw xsc xtc w7 xwt 4 i6 (f_X6_quotient (f_X2_heldByParts w7 i6 q1) (f_X6_figureSum q1))) ⟨Nat.le_of_ble_eq_true rfl, Nat.le_of_ble_eq_true rfl⟩ ⟨Nat.le_refl 0, Nat.le_refl 0⟩ [14, 15, 16] rfl rfl rfl (ws' := [(ax, .inr (6, [.ref ap, .ref ar, .ref au, .ref an, .ref ato, .long xrd, .long xal])), (ato, .inr (1, [.long xta, .long xtb])), (ap, .inr (4, [.ref apc, .int xpl])), (apc, .inl (cI, 47, .inl xpc)), (ar, .inr (5, [.ref ard, .int xso, .int xtr, .int xwi, .int xnu])), (ard, .inl (cI, 16, .inl xdr)), (an, .inr (3, [.ref af, .ref anq, .int xns, .int xnc])), (anq, .inr (1, [.long xna, .long xnb])), (af, .inr (0, [.ref afp, .ref afm, .ref afs, .ref aft, .ref afq, .int xfs, .int xba, .long xbe])), (afp, .inl (cJ, 25, .inr (.inl xpr))), (afm, .inl (cJ, 9, .inr (.inl xmx))), (afs, .inl (cJ, 3, .inr (.inl xsd))), (aft, .inl (cJ, 4, .inr (.inl xpt))), (afq, .inr (1, [.long xfa, .long xfb])), (au, .inr (2, [.ref auh, .ref auw, .int xsc, .int xtc])), (auh, .inl (cI, 20, .inl (f_X2_putHeld w7 4 i6 (f_X6_quotient (f_X2_heldByParts w7 i6 q1) (f_X6_figureSum q1))))), (auw, .inl (cI, 4, .inl xwt))]) rfl rfl rfl rfl hl.1 rfl (Nat.le_of_ble_eq_true rfl) dX6_made_101 (fun H locs w => ?_)
                    refine lv_iinc (v := i6 + 1) (lv' := [(3, .int (i6 + 1)), (0, .ref ax), (1, .int q1), (2, .int (f_X6_figureSum q1))]) hx hb dX6_made_104 hl (k := 3) rfl rfl (by decide) rfl (fun ls hl => ?_)
                    refine lv_goto (tgt := 77) hx hb dX6_made_107 (by decide) ?_
                    exact ih77 (k77 + 1) (i6 + 1) (f_X2_putHeld w7 4 i6 (f_X6_quotient (f_X2_heldByParts w7 i6 q1) (f_X6_figureSum q1))) (by rw [hk77]; exact nI_1 k77) (by omega) (by omega) hr H locs w ls (lv_sub hl [1, 2, 3, 0] rfl)
              exact LP77 5 0 0 xhd (by decide) (by omega) (by omega) hy77.symm H locs w ls (lv_sub hl [1, 2, 3, 0] rfl)
            · have hr := (if_neg c46_5).symm.trans hr
              have hkl44 := kl_of hk44 hkN44 (N := 4) (by decide) (by omega) c46_5
              refine lv_aload_n hx hb dX6_made_49 rfl (lv_at hl 0 rfl) ?_
              refine fr_get C w fg_X6_26 0 rfl rfl dX6_made_50 ?_
              refine lv_iload_n hx hb dX6_made_53 rfl (lv_at hl 3 rfl) ?_
              refine lv_iload_n hx hb dX6_made_54 rfl (lv_at hl 1 rfl) ?_
              refine fr_callIV (As := [.int i4, .int q1]) (rest := []) C w kf_X2_heldByParts mw_13_16 (c_X2_heldByParts l D cI cJ au auh auw xsc xtc xhd xwt i4 q1) ⟨Nat.le_of_ble_eq_true rfl, Nat.le_of_ble_eq_true rfl⟩ ⟨Nat.le_refl 0, Nat.le_refl 0⟩ [14, 15, 16] rfl rfl rfl (ws' := [(ax, .inr (6, [.ref ap, .ref ar, .ref au, .ref an, .ref ato, .long xrd, .long xal])), (ato, .inr (1, [.long xta, .long xtb])), (ap, .inr (4, [.ref apc, .int xpl])), (apc, .inl (cI, 47, .inl xpc)), (ar, .inr (5, [.ref ard, .int xso, .int xtr, .int xwi, .int xnu])), (ard, .inl (cI, 16, .inl xdr)), (an, .inr (3, [.ref af, .ref anq, .int xns, .int xnc])), (anq, .inr (1, [.long xna, .long xnb])), (af, .inr (0, [.ref afp, .ref afm, .ref afs, .ref aft, .ref afq, .int xfs, .int xba, .long xbe])), (afp, .inl (cJ, 25, .inr (.inl xpr))), (afm, .inl (cJ, 9, .inr (.inl xmx))), (afs, .inl (cJ, 3, .inr (.inl xsd))), (aft, .inl (cJ, 4, .inr (.inl xpt))), (afq, .inr (1, [.long xfa, .long xfb])), (au, .inr (2, [.ref auh, .ref auw, .int xsc, .int xtc])), (auh, .inl (cI, 20, .inl xhd)), (auw, .inl (cI, 4, .inl xwt))]) rfl rfl rfl rfl hl.1 rfl (Nat.le_of_ble_eq_true rfl) dX6_made_55 (fun H locs w => ?_)
              refine lv_iload_n hx hb dX6_made_58 rfl (lv_at hl 2 rfl) ?_
              refine fr_callIS (As := [.int (f_X2_heldByParts xhd i4 q1), .int (f_X6_figureSum q1)]) (rest := []) C w kf_X6_isMultiple mw_13_21 (c_X6_isMultiple l D cI cJ (f_X2_heldByParts xhd i4 q1) (f_X6_figureSum q1)) ⟨Nat.le_of_ble_eq_true rfl, Nat.le_of_ble_eq_true rfl⟩ ⟨Nat.le_refl 0, Nat.le_refl 0⟩ [] rfl rfl rfl (ws' := [(ax, .inr (6, [.ref ap, .ref ar, .ref au, .ref an, .ref ato, .long xrd, .long xal])), (ato, .inr (1, [.long xta, .long xtb])), (ap, .inr (4, [.ref apc, .int xpl])), (apc, .inl (cI, 47, .inl xpc)), (ar, .inr (5, [.ref ard, .int xso, .int xtr, .int xwi, .int xnu])), (ard, .inl (cI, 16, .inl xdr)), (an, .inr (3, [.ref af, .ref anq, .int xns, .int xnc])), (anq, .inr (1, [.long xna, .long xnb])), (af, .inr (0, [.ref afp, .ref afm, .ref afs, .ref aft, .ref afq, .int xfs, .int xba, .long xbe])), (afp, .inl (cJ, 25, .inr (.inl xpr))), (afm, .inl (cJ, 9, .inr (.inl xmx))), (afs, .inl (cJ, 3, .inr (.inl xsd))), (aft, .inl (cJ, 4, .inr (.inl xpt))), (afq, .inr (1, [.long xfa, .long xfb])), (au, .inr (2, [.ref auh, .ref auw, .int xsc, .int xtc])), (auh, .inl (cI, 20, .inl xhd)), (auw, .inl (cI, 4, .inl xwt))]) rfl rfl hl.1 rfl (Nat.le_of_ble_eq_true rfl) dX6_made_59 (fun H locs w => ?_)
              refine lv_if_ne (tgt := 69) hx hb dX6_made_62 (by decide) (fun c62_9 => ?_) (fun c62_9 => ?_)
              · have hr := (if_neg c62_9).symm.trans hr
                refine lv_iinc (v := i4 + 1) (lv' := [(3, .int (i4 + 1)), (0, .ref ax), (1, .int q1), (2, .int (f_X6_figureSum q1))]) hx hb dX6_made_69 hl (k := 3) rfl rfl (by decide) rfl (fun ls hl => ?_)
                refine lv_goto (tgt := 44) hx hb dX6_made_72 (by decide) ?_
                exact ih44 (k44 + 1) (i4 + 1) (by rw [hk44]; exact nI_1 k44) (by omega) (by omega) hr H locs w ls (lv_sub hl [1, 2, 3, 0] rfl)
              · have hr := (if_pos c62_9).symm.trans hr
                refine lv_ldc2 hx hb C.2.2.2.1 (C.2.2.2.2.1 _ mw_9_7) dX6_made_65 ?_
                subst hr hQ
                exact fr_lret C hret hlk w rfl rfl dX6_made_68
        exact LP44 5 0 0 (by decide) (by omega) (by omega) hr H locs w ls (lv_sub hl [2, 3, 1, 0] rfl)
      · have hr := (if_neg c30_3).symm.trans hr
        refine lv_ldc2 hx hb C.2.2.2.1 (C.2.2.2.2.1 _ mw_4_23) dX6_made_33 ?_
        subst hr hQ
        exact fr_lret C hret hlk w rfl rfl dX6_made_36
  · have hr := (if_pos c7_1).symm.trans hr
    refine lv_ldc2 hx hb C.2.2.2.1 (C.2.2.2.2.1 _ mw_9_7) dX6_made_10 ?_
    subst hr hQ
    exact fr_lret C hret hlk w rfl rfl dX6_made_13
def f_X6_has (xsc : Int32) (xtc : Int32) (xhd : Nat → Int32) (q1 : Int32) (q2 : Int32) : Int64 := (if (f_X2_isSource xsc q1) = 0 then (-1000002) else (if q2 < 0 then (-1000003) else (if q2 < 4 then (if (f_X2_isTracer xtc q2) = 0 then (-1000001) else (Int32.toInt64 (f_X2_heldOf xhd q1 q2))) else (-1000003))))
set_option maxRecDepth 100000 in
set_option maxHeartbeats 4000000 in
theorem c_X6_has (l : Launch) (D : va_G) (cI cJ : ClassId) (ax ap ar au an ato apc ard af anq afp afm afs aft afq auh auw : Nat) (xrd : Int64) (xal : Int64) (xta : Int64) (xtb : Int64) (xpl : Int32) (xpc : Nat → Int32) (xso : Int32) (xtr : Int32) (xwi : Int32) (xnu : Int32) (xdr : Nat → Int32) (xns : Int32) (xnc : Int32) (xna : Int64) (xnb : Int64) (xfs : Int32) (xba : Int32) (xbe : Int64) (xpr : Nat → Int64) (xmx : Nat → Int64) (xsd : Nat → Int64) (xpt : Nat → Int64) (xfa : Int64) (xfb : Int64) (xsc : Int32) (xtc : Int32) (xhd : Nat → Int32) (xwt : Nat → Int32) (q1 : Int32) (q2 : Int32) : CL l yX6_has cX6_has 3 2 D cI cJ [.ref ax, .int q1, .int q2] [(ax, .inr (6, [.ref ap, .ref ar, .ref au, .ref an, .ref ato, .long xrd, .long xal])), (ato, .inr (1, [.long xta, .long xtb])), (ap, .inr (4, [.ref apc, .int xpl])), (apc, .inl (cI, 47, .inl xpc)), (ar, .inr (5, [.ref ard, .int xso, .int xtr, .int xwi, .int xnu])), (ard, .inl (cI, 16, .inl xdr)), (an, .inr (3, [.ref af, .ref anq, .int xns, .int xnc])), (anq, .inr (1, [.long xna, .long xnb])), (af, .inr (0, [.ref afp, .ref afm, .ref afs, .ref aft, .ref afq, .int xfs, .int xba, .long xbe])), (afp, .inl (cJ, 25, .inr (.inl xpr))), (afm, .inl (cJ, 9, .inr (.inl xmx))), (afs, .inl (cJ, 3, .inr (.inl xsd))), (aft, .inl (cJ, 4, .inr (.inl xpt))), (afq, .inr (1, [.long xfa, .long xfb])), (au, .inr (2, [.ref auh, .ref auw, .int xsc, .int xtc])), (auh, .inl (cI, 20, .inl xhd)), (auw, .inl (cI, 4, .inl xwt))] [(ax, .inr (6, [.ref ap, .ref ar, .ref au, .ref an, .ref ato, .long xrd, .long xal])), (ato, .inr (1, [.long xta, .long xtb])), (ap, .inr (4, [.ref apc, .int xpl])), (apc, .inl (cI, 47, .inl xpc)), (ar, .inr (5, [.ref ard, .int xso, .int xtr, .int xwi, .int xnu])), (ard, .inl (cI, 16, .inl xdr)), (an, .inr (3, [.ref af, .ref anq, .int xns, .int xnc])), (anq, .inr (1, [.long xna, .long xnb])), (af, .inr (0, [.ref afp, .ref afm, .ref afs, .ref aft, .ref afq, .int xfs, .int xba, .long xbe])), (afp, .inl (cJ, 25, .inr (.inl xpr))), (afm, .inl (cJ, 9, .inr (.inl xmx))), (afs, .inl (cJ, 3, .inr (.inl xsd))), (aft, .inl (cJ, 4, .inr (.inl xpt))), (afq, .inr (1, [.long xfa, .long xfb])), (au, .inr (2, [.ref auh, .ref auw, .int xsc, .int xtc])), (auh, .inl (cI, 20, .inl xhd)), (auw, .inl (cI, 4, .inl xwt))] (f_X6_has xsc xtc xhd q1 q2) := by
  generalize hr : f_X6_has xsc xtc xhd q1 q2 = r
  refine fr_entryL (by decide) rfl ?_
  intro p e s m args below meth c A Q H locs hQ C hret hlk w ls hl
  have hx := C.1
  have hb := C.2.1
  have hl : lv_has ls 3 [(0, .ref ax), (1, .int q1), (2, .int q2)] := hl
  have hr : (if (f_X2_isSource xsc q1) = 0 then (-1000002) else (if q2 < 0 then (-1000003) else (if q2 < 4 then (if (f_X2_isTracer xtc q2) = 0 then (-1000001) else (Int32.toInt64 (f_X2_heldOf xhd q1 q2))) else (-1000003)))) = r := hr
  refine lv_aload_n hx hb dX6_has_0 rfl (lv_at hl 0 rfl) ?_
  refine fr_get C w fg_X6_26 0 rfl rfl dX6_has_1 ?_
  refine lv_iload_n hx hb dX6_has_4 rfl (lv_at hl 1 rfl) ?_
  refine fr_callIV (As := [.int q1]) (rest := []) C w kf_X2_isSource mw_12_18 (c_X2_isSource l D cI cJ au auh auw xsc xtc xhd xwt q1) ⟨Nat.le_of_ble_eq_true rfl, Nat.le_of_ble_eq_true rfl⟩ ⟨Nat.le_refl 0, Nat.le_refl 0⟩ [14, 15, 16] rfl rfl rfl (ws' := [(ax, .inr (6, [.ref ap, .ref ar, .ref au, .ref an, .ref ato, .long xrd, .long xal])), (ato, .inr (1, [.long xta, .long xtb])), (ap, .inr (4, [.ref apc, .int xpl])), (apc, .inl (cI, 47, .inl xpc)), (ar, .inr (5, [.ref ard, .int xso, .int xtr, .int xwi, .int xnu])), (ard, .inl (cI, 16, .inl xdr)), (an, .inr (3, [.ref af, .ref anq, .int xns, .int xnc])), (anq, .inr (1, [.long xna, .long xnb])), (af, .inr (0, [.ref afp, .ref afm, .ref afs, .ref aft, .ref afq, .int xfs, .int xba, .long xbe])), (afp, .inl (cJ, 25, .inr (.inl xpr))), (afm, .inl (cJ, 9, .inr (.inl xmx))), (afs, .inl (cJ, 3, .inr (.inl xsd))), (aft, .inl (cJ, 4, .inr (.inl xpt))), (afq, .inr (1, [.long xfa, .long xfb])), (au, .inr (2, [.ref auh, .ref auw, .int xsc, .int xtc])), (auh, .inl (cI, 20, .inl xhd)), (auw, .inl (cI, 4, .inl xwt))]) rfl rfl rfl rfl hl.1 rfl (Nat.le_of_ble_eq_true rfl) dX6_has_5 (fun H locs w => ?_)
  refine lv_if_ne (tgt := 15) hx hb dX6_has_8 (by decide) (fun c8_1 => ?_) (fun c8_1 => ?_)
  · have hr := (if_neg c8_1).symm.trans hr
    refine lv_iload_n hx hb dX6_has_15 rfl (lv_at hl 2 rfl) ?_
    refine lv_if_lt (tgt := 24) hx hb dX6_has_16 (by decide) (fun c16_2 => ?_) (fun c16_2 => ?_)
    · have hr := (if_pos c16_2).symm.trans hr
      refine lv_ldc2 hx hb C.2.2.2.1 (C.2.2.2.2.1 _ mw_4_23) dX6_has_24 ?_
      subst hr hQ
      exact fr_lret C hret hlk w rfl rfl dX6_has_27
    · have hr := (if_neg c16_2).symm.trans hr
      refine lv_iload_n hx hb dX6_has_19 rfl (lv_at hl 2 rfl) ?_
      refine lv_iconst (v := 4) hx hb dX6_has_20 (by decide) ?_
      refine lv_icmp_lt (tgt := 28) hx hb dX6_has_21 (by decide) (fun c21_3 => ?_) (fun c21_3 => ?_)
      · have hr := (if_pos c21_3).symm.trans hr
        refine lv_aload_n hx hb dX6_has_28 rfl (lv_at hl 0 rfl) ?_
        refine fr_get C w fg_X6_26 0 rfl rfl dX6_has_29 ?_
        refine lv_iload_n hx hb dX6_has_32 rfl (lv_at hl 2 rfl) ?_
        refine fr_callIV (As := [.int q2]) (rest := []) C w kf_X2_isTracer mw_10_22 (c_X2_isTracer l D cI cJ au auh auw xsc xtc xhd xwt q2) ⟨Nat.le_of_ble_eq_true rfl, Nat.le_of_ble_eq_true rfl⟩ ⟨Nat.le_refl 0, Nat.le_refl 0⟩ [14, 15, 16] rfl rfl rfl (ws' := [(ax, .inr (6, [.ref ap, .ref ar, .ref au, .ref an, .ref ato, .long xrd, .long xal])), (ato, .inr (1, [.long xta, .long xtb])), (ap, .inr (4, [.ref apc, .int xpl])), (apc, .inl (cI, 47, .inl xpc)), (ar, .inr (5, [.ref ard, .int xso, .int xtr, .int xwi, .int xnu])), (ard, .inl (cI, 16, .inl xdr)), (an, .inr (3, [.ref af, .ref anq, .int xns, .int xnc])), (anq, .inr (1, [.long xna, .long xnb])), (af, .inr (0, [.ref afp, .ref afm, .ref afs, .ref aft, .ref afq, .int xfs, .int xba, .long xbe])), (afp, .inl (cJ, 25, .inr (.inl xpr))), (afm, .inl (cJ, 9, .inr (.inl xmx))), (afs, .inl (cJ, 3, .inr (.inl xsd))), (aft, .inl (cJ, 4, .inr (.inl xpt))), (afq, .inr (1, [.long xfa, .long xfb])), (au, .inr (2, [.ref auh, .ref auw, .int xsc, .int xtc])), (auh, .inl (cI, 20, .inl xhd)), (auw, .inl (cI, 4, .inl xwt))]) rfl rfl rfl rfl hl.1 rfl (Nat.le_of_ble_eq_true rfl) dX6_has_33 (fun H locs w => ?_)
        refine lv_if_eq (tgt := 52) hx hb dX6_has_36 (by decide) (fun c36_4 => ?_) (fun c36_4 => ?_)
        · have hr := (if_pos c36_4).symm.trans hr
          refine lv_ldc2 hx hb C.2.2.2.1 (C.2.2.2.2.1 _ mw_14_15) dX6_has_52 ?_
          subst hr hQ
          exact fr_lret C hret hlk w rfl rfl dX6_has_55
        · have hr := (if_neg c36_4).symm.trans hr
          refine lv_aload_n hx hb dX6_has_39 rfl (lv_at hl 0 rfl) ?_
          refine fr_get C w fg_X6_26 0 rfl rfl dX6_has_40 ?_
          refine lv_iload_n hx hb dX6_has_43 rfl (lv_at hl 1 rfl) ?_
          refine lv_iload_n hx hb dX6_has_44 rfl (lv_at hl 2 rfl) ?_
          refine fr_callIV (As := [.int q1, .int q2]) (rest := []) C w kf_X2_heldOf mw_11_9 (c_X2_heldOf l D cI cJ au auh auw xsc xtc xhd xwt q1 q2) ⟨Nat.le_of_ble_eq_true rfl, Nat.le_of_ble_eq_true rfl⟩ ⟨Nat.le_refl 0, Nat.le_refl 0⟩ [14, 15, 16] rfl rfl rfl (ws' := [(ax, .inr (6, [.ref ap, .ref ar, .ref au, .ref an, .ref ato, .long xrd, .long xal])), (ato, .inr (1, [.long xta, .long xtb])), (ap, .inr (4, [.ref apc, .int xpl])), (apc, .inl (cI, 47, .inl xpc)), (ar, .inr (5, [.ref ard, .int xso, .int xtr, .int xwi, .int xnu])), (ard, .inl (cI, 16, .inl xdr)), (an, .inr (3, [.ref af, .ref anq, .int xns, .int xnc])), (anq, .inr (1, [.long xna, .long xnb])), (af, .inr (0, [.ref afp, .ref afm, .ref afs, .ref aft, .ref afq, .int xfs, .int xba, .long xbe])), (afp, .inl (cJ, 25, .inr (.inl xpr))), (afm, .inl (cJ, 9, .inr (.inl xmx))), (afs, .inl (cJ, 3, .inr (.inl xsd))), (aft, .inl (cJ, 4, .inr (.inl xpt))), (afq, .inr (1, [.long xfa, .long xfb])), (au, .inr (2, [.ref auh, .ref auw, .int xsc, .int xtc])), (auh, .inl (cI, 20, .inl xhd)), (auw, .inl (cI, 4, .inl xwt))]) rfl rfl rfl rfl hl.1 rfl (Nat.le_of_ble_eq_true rfl) dX6_has_45 (fun H locs w => ?_)
          refine lv_i2l (v := (Int32.toInt64 (f_X2_heldOf xhd q1 q2))) hx hb dX6_has_48 rfl ?_
          refine lv_goto (tgt := 55) hx hb dX6_has_49 (by decide) ?_
          subst hr hQ
          exact fr_lret C hret hlk w rfl rfl dX6_has_55
      · have hr := (if_neg c21_3).symm.trans hr
        refine lv_ldc2 hx hb C.2.2.2.1 (C.2.2.2.2.1 _ mw_4_23) dX6_has_24 ?_
        subst hr hQ
        exact fr_lret C hret hlk w rfl rfl dX6_has_27
  · have hr := (if_pos c8_1).symm.trans hr
    refine lv_ldc2 hx hb C.2.2.2.1 (C.2.2.2.2.1 _ mw_10_20) dX6_has_11 ?_
    subst hr hQ
    exact fr_lret C hret hlk w rfl rfl dX6_has_14
def f_X6_tracer (xtc : Int32) (xhd : Nat → Int32) (xwt : Nat → Int32) (q1 : Int32) (q2 : Int32) : Int64 := (if (f_X2_isTracer xtc q1) = 0 then (-1000002) else (if q2 = 0 then (Int32.toInt64 (f_X2_heldOf xhd 4 q1)) else (if q2 = 1 then (Int32.toInt64 (f_X2_weightOf xwt q1)) else (-1000003))))
set_option maxRecDepth 100000 in
set_option maxHeartbeats 4000000 in
theorem c_X6_tracer (l : Launch) (D : va_G) (cI cJ : ClassId) (ax ap ar au an ato apc ard af anq afp afm afs aft afq auh auw : Nat) (xrd : Int64) (xal : Int64) (xta : Int64) (xtb : Int64) (xpl : Int32) (xpc : Nat → Int32) (xso : Int32) (xtr : Int32) (xwi : Int32) (xnu : Int32) (xdr : Nat → Int32) (xns : Int32) (xnc : Int32) (xna : Int64) (xnb : Int64) (xfs : Int32) (xba : Int32) (xbe : Int64) (xpr : Nat → Int64) (xmx : Nat → Int64) (xsd : Nat → Int64) (xpt : Nat → Int64) (xfa : Int64) (xfb : Int64) (xsc : Int32) (xtc : Int32) (xhd : Nat → Int32) (xwt : Nat → Int32) (q1 : Int32) (q2 : Int32) : CL l yX6_tracer cX6_tracer 3 2 D cI cJ [.ref ax, .int q1, .int q2] [(ax, .inr (6, [.ref ap, .ref ar, .ref au, .ref an, .ref ato, .long xrd, .long xal])), (ato, .inr (1, [.long xta, .long xtb])), (ap, .inr (4, [.ref apc, .int xpl])), (apc, .inl (cI, 47, .inl xpc)), (ar, .inr (5, [.ref ard, .int xso, .int xtr, .int xwi, .int xnu])), (ard, .inl (cI, 16, .inl xdr)), (an, .inr (3, [.ref af, .ref anq, .int xns, .int xnc])), (anq, .inr (1, [.long xna, .long xnb])), (af, .inr (0, [.ref afp, .ref afm, .ref afs, .ref aft, .ref afq, .int xfs, .int xba, .long xbe])), (afp, .inl (cJ, 25, .inr (.inl xpr))), (afm, .inl (cJ, 9, .inr (.inl xmx))), (afs, .inl (cJ, 3, .inr (.inl xsd))), (aft, .inl (cJ, 4, .inr (.inl xpt))), (afq, .inr (1, [.long xfa, .long xfb])), (au, .inr (2, [.ref auh, .ref auw, .int xsc, .int xtc])), (auh, .inl (cI, 20, .inl xhd)), (auw, .inl (cI, 4, .inl xwt))] [(ax, .inr (6, [.ref ap, .ref ar, .ref au, .ref an, .ref ato, .long xrd, .long xal])), (ato, .inr (1, [.long xta, .long xtb])), (ap, .inr (4, [.ref apc, .int xpl])), (apc, .inl (cI, 47, .inl xpc)), (ar, .inr (5, [.ref ard, .int xso, .int xtr, .int xwi, .int xnu])), (ard, .inl (cI, 16, .inl xdr)), (an, .inr (3, [.ref af, .ref anq, .int xns, .int xnc])), (anq, .inr (1, [.long xna, .long xnb])), (af, .inr (0, [.ref afp, .ref afm, .ref afs, .ref aft, .ref afq, .int xfs, .int xba, .long xbe])), (afp, .inl (cJ, 25, .inr (.inl xpr))), (afm, .inl (cJ, 9, .inr (.inl xmx))), (afs, .inl (cJ, 3, .inr (.inl xsd))), (aft, .inl (cJ, 4, .inr (.inl xpt))), (afq, .inr (1, [.long xfa, .long xfb])), (au, .inr (2, [.ref auh, .ref auw, .int xsc, .int xtc])), (auh, .inl (cI, 20, .inl xhd)), (auw, .inl (cI, 4, .inl xwt))] (f_X6_tracer xtc xhd xwt q1 q2) := by
  generalize hr : f_X6_tracer xtc xhd xwt q1 q2 = r
  refine fr_entryL (by decide) rfl ?_
  intro p e s m args below meth c A Q H locs hQ C hret hlk w ls hl
  have hx := C.1
  have hb := C.2.1
  have hl : lv_has ls 3 [(0, .ref ax), (1, .int q1), (2, .int q2)] := hl
  have hr : (if (f_X2_isTracer xtc q1) = 0 then (-1000002) else (if q2 = 0 then (Int32.toInt64 (f_X2_heldOf xhd 4 q1)) else (if q2 = 1 then (Int32.toInt64 (f_X2_weightOf xwt q1)) else (-1000003)))) = r := hr
  refine lv_aload_n hx hb dX6_tracer_0 rfl (lv_at hl 0 rfl) ?_
  refine fr_get C w fg_X6_26 0 rfl rfl dX6_tracer_1 ?_
  refine lv_iload_n hx hb dX6_tracer_4 rfl (lv_at hl 1 rfl) ?_
  refine fr_callIV (As := [.int q1]) (rest := []) C w kf_X2_isTracer mw_10_22 (c_X2_isTracer l D cI cJ au auh auw xsc xtc xhd xwt q1) ⟨Nat.le_of_ble_eq_true rfl, Nat.le_of_ble_eq_true rfl⟩ ⟨Nat.le_refl 0, Nat.le_refl 0⟩ [14, 15, 16] rfl rfl rfl (ws' := [(ax, .inr (6, [.ref ap, .ref ar, .ref au, .ref an, .ref ato, .long xrd, .long xal])), (ato, .inr (1, [.long xta, .long xtb])), (ap, .inr (4, [.ref apc, .int xpl])), (apc, .inl (cI, 47, .inl xpc)), (ar, .inr (5, [.ref ard, .int xso, .int xtr, .int xwi, .int xnu])), (ard, .inl (cI, 16, .inl xdr)), (an, .inr (3, [.ref af, .ref anq, .int xns, .int xnc])), (anq, .inr (1, [.long xna, .long xnb])), (af, .inr (0, [.ref afp, .ref afm, .ref afs, .ref aft, .ref afq, .int xfs, .int xba, .long xbe])), (afp, .inl (cJ, 25, .inr (.inl xpr))), (afm, .inl (cJ, 9, .inr (.inl xmx))), (afs, .inl (cJ, 3, .inr (.inl xsd))), (aft, .inl (cJ, 4, .inr (.inl xpt))), (afq, .inr (1, [.long xfa, .long xfb])), (au, .inr (2, [.ref auh, .ref auw, .int xsc, .int xtc])), (auh, .inl (cI, 20, .inl xhd)), (auw, .inl (cI, 4, .inl xwt))]) rfl rfl rfl rfl hl.1 rfl (Nat.le_of_ble_eq_true rfl) dX6_tracer_5 (fun H locs w => ?_)
  refine lv_if_ne (tgt := 15) hx hb dX6_tracer_8 (by decide) (fun c8_1 => ?_) (fun c8_1 => ?_)
  · have hr := (if_neg c8_1).symm.trans hr
    refine lv_iload_n hx hb dX6_tracer_15 rfl (lv_at hl 2 rfl) ?_
    by_cases c16_s0 : q2 = 0
    · have hr := (if_pos c16_s0).symm.trans hr
      refine lv_lookup (tgt := 44) (off := 28) hx hb dX6_tracer_16 (by decide) (by rw [c16_s0]; decide) (by decide) ?_
      refine lv_aload_n hx hb dX6_tracer_44 rfl (lv_at hl 0 rfl) ?_
      refine fr_get C w fg_X6_26 0 rfl rfl dX6_tracer_45 ?_
      refine lv_iconst (v := 4) hx hb dX6_tracer_48 (by decide) ?_
      refine lv_iload_n hx hb dX6_tracer_49 rfl (lv_at hl 1 rfl) ?_
      refine fr_callIV (As := [.int 4, .int q1]) (rest := []) C w kf_X2_heldOf mw_11_9 (c_X2_heldOf l D cI cJ au auh auw xsc xtc xhd xwt 4 q1) ⟨Nat.le_of_ble_eq_true rfl, Nat.le_of_ble_eq_true rfl⟩ ⟨Nat.le_refl 0, Nat.le_refl 0⟩ [14, 15, 16] rfl rfl rfl (ws' := [(ax, .inr (6, [.ref ap, .ref ar, .ref au, .ref an, .ref ato, .long xrd, .long xal])), (ato, .inr (1, [.long xta, .long xtb])), (ap, .inr (4, [.ref apc, .int xpl])), (apc, .inl (cI, 47, .inl xpc)), (ar, .inr (5, [.ref ard, .int xso, .int xtr, .int xwi, .int xnu])), (ard, .inl (cI, 16, .inl xdr)), (an, .inr (3, [.ref af, .ref anq, .int xns, .int xnc])), (anq, .inr (1, [.long xna, .long xnb])), (af, .inr (0, [.ref afp, .ref afm, .ref afs, .ref aft, .ref afq, .int xfs, .int xba, .long xbe])), (afp, .inl (cJ, 25, .inr (.inl xpr))), (afm, .inl (cJ, 9, .inr (.inl xmx))), (afs, .inl (cJ, 3, .inr (.inl xsd))), (aft, .inl (cJ, 4, .inr (.inl xpt))), (afq, .inr (1, [.long xfa, .long xfb])), (au, .inr (2, [.ref auh, .ref auw, .int xsc, .int xtc])), (auh, .inl (cI, 20, .inl xhd)), (auw, .inl (cI, 4, .inl xwt))]) rfl rfl rfl rfl hl.1 rfl (Nat.le_of_ble_eq_true rfl) dX6_tracer_50 (fun H locs w => ?_)
      refine lv_i2l (v := (Int32.toInt64 (f_X2_heldOf xhd 4 q1))) hx hb dX6_tracer_53 rfl ?_
      subst hr hQ
      exact fr_lret C hret hlk w rfl rfl dX6_tracer_54
    · have hr := (if_neg c16_s0).symm.trans hr
      by_cases c16_s1 : q2 = 1
      · have hr := (if_pos c16_s1).symm.trans hr
        refine lv_lookup (tgt := 55) (off := 39) hx hb dX6_tracer_16 (by decide) (by rw [c16_s1]; decide) (by decide) ?_
        refine lv_aload_n hx hb dX6_tracer_55 rfl (lv_at hl 0 rfl) ?_
        refine fr_get C w fg_X6_26 0 rfl rfl dX6_tracer_56 ?_
        refine lv_iload_n hx hb dX6_tracer_59 rfl (lv_at hl 1 rfl) ?_
        refine fr_callIV (As := [.int q1]) (rest := []) C w kf_X2_weightOf mw_11_20 (c_X2_weightOf l D cI cJ au auh auw xsc xtc xhd xwt q1) ⟨Nat.le_of_ble_eq_true rfl, Nat.le_of_ble_eq_true rfl⟩ ⟨Nat.le_refl 0, Nat.le_refl 0⟩ [14, 15, 16] rfl rfl rfl (ws' := [(ax, .inr (6, [.ref ap, .ref ar, .ref au, .ref an, .ref ato, .long xrd, .long xal])), (ato, .inr (1, [.long xta, .long xtb])), (ap, .inr (4, [.ref apc, .int xpl])), (apc, .inl (cI, 47, .inl xpc)), (ar, .inr (5, [.ref ard, .int xso, .int xtr, .int xwi, .int xnu])), (ard, .inl (cI, 16, .inl xdr)), (an, .inr (3, [.ref af, .ref anq, .int xns, .int xnc])), (anq, .inr (1, [.long xna, .long xnb])), (af, .inr (0, [.ref afp, .ref afm, .ref afs, .ref aft, .ref afq, .int xfs, .int xba, .long xbe])), (afp, .inl (cJ, 25, .inr (.inl xpr))), (afm, .inl (cJ, 9, .inr (.inl xmx))), (afs, .inl (cJ, 3, .inr (.inl xsd))), (aft, .inl (cJ, 4, .inr (.inl xpt))), (afq, .inr (1, [.long xfa, .long xfb])), (au, .inr (2, [.ref auh, .ref auw, .int xsc, .int xtc])), (auh, .inl (cI, 20, .inl xhd)), (auw, .inl (cI, 4, .inl xwt))]) rfl rfl rfl rfl hl.1 rfl (Nat.le_of_ble_eq_true rfl) dX6_tracer_60 (fun H locs w => ?_)
        refine lv_i2l (v := (Int32.toInt64 (f_X2_weightOf xwt q1))) hx hb dX6_tracer_63 rfl ?_
        subst hr hQ
        exact fr_lret C hret hlk w rfl rfl dX6_tracer_64
      · have hr := (if_neg c16_s1).symm.trans hr
        refine lv_lookup (tgt := 65) (off := 49) hx hb dX6_tracer_16 (by decide) (sw_look_X6_tracer c16_s0 c16_s1) (by decide) ?_
        refine lv_ldc2 hx hb C.2.2.2.1 (C.2.2.2.2.1 _ mw_4_23) dX6_tracer_65 ?_
        subst hr hQ
        exact fr_lret C hret hlk w rfl rfl dX6_tracer_68
  · have hr := (if_pos c8_1).symm.trans hr
    refine lv_ldc2 hx hb C.2.2.2.1 (C.2.2.2.2.1 _ mw_10_20) dX6_tracer_11 ?_
    subst hr hQ
    exact fr_lret C hret hlk w rfl rfl dX6_tracer_14
def f_X6_alike (xsc : Int32) (xtc : Int32) (xhd : Nat → Int32) (q1 : Int32) (q2 : Int32) : Int64 := (if (f_X2_isSource xsc q1) = 0 then (-1000002) else (if (f_X2_isUsed xtc q2) = 0 then (-1000003) else (Int32.toInt64 (f_X2_firstAlike xhd q1 q2))))
set_option maxRecDepth 100000 in
set_option maxHeartbeats 4000000 in
theorem c_X6_alike (l : Launch) (D : va_G) (cI cJ : ClassId) (ax ap ar au an ato apc ard af anq afp afm afs aft afq auh auw : Nat) (xrd : Int64) (xal : Int64) (xta : Int64) (xtb : Int64) (xpl : Int32) (xpc : Nat → Int32) (xso : Int32) (xtr : Int32) (xwi : Int32) (xnu : Int32) (xdr : Nat → Int32) (xns : Int32) (xnc : Int32) (xna : Int64) (xnb : Int64) (xfs : Int32) (xba : Int32) (xbe : Int64) (xpr : Nat → Int64) (xmx : Nat → Int64) (xsd : Nat → Int64) (xpt : Nat → Int64) (xfa : Int64) (xfb : Int64) (xsc : Int32) (xtc : Int32) (xhd : Nat → Int32) (xwt : Nat → Int32) (q1 : Int32) (q2 : Int32) (hsc : ∃ n : Nat, n ≤ 4 ∧ xsc = nI n) : CL l yX6_alike cX6_alike 3 4 D cI cJ [.ref ax, .int q1, .int q2] [(ax, .inr (6, [.ref ap, .ref ar, .ref au, .ref an, .ref ato, .long xrd, .long xal])), (ato, .inr (1, [.long xta, .long xtb])), (ap, .inr (4, [.ref apc, .int xpl])), (apc, .inl (cI, 47, .inl xpc)), (ar, .inr (5, [.ref ard, .int xso, .int xtr, .int xwi, .int xnu])), (ard, .inl (cI, 16, .inl xdr)), (an, .inr (3, [.ref af, .ref anq, .int xns, .int xnc])), (anq, .inr (1, [.long xna, .long xnb])), (af, .inr (0, [.ref afp, .ref afm, .ref afs, .ref aft, .ref afq, .int xfs, .int xba, .long xbe])), (afp, .inl (cJ, 25, .inr (.inl xpr))), (afm, .inl (cJ, 9, .inr (.inl xmx))), (afs, .inl (cJ, 3, .inr (.inl xsd))), (aft, .inl (cJ, 4, .inr (.inl xpt))), (afq, .inr (1, [.long xfa, .long xfb])), (au, .inr (2, [.ref auh, .ref auw, .int xsc, .int xtc])), (auh, .inl (cI, 20, .inl xhd)), (auw, .inl (cI, 4, .inl xwt))] [(ax, .inr (6, [.ref ap, .ref ar, .ref au, .ref an, .ref ato, .long xrd, .long xal])), (ato, .inr (1, [.long xta, .long xtb])), (ap, .inr (4, [.ref apc, .int xpl])), (apc, .inl (cI, 47, .inl xpc)), (ar, .inr (5, [.ref ard, .int xso, .int xtr, .int xwi, .int xnu])), (ard, .inl (cI, 16, .inl xdr)), (an, .inr (3, [.ref af, .ref anq, .int xns, .int xnc])), (anq, .inr (1, [.long xna, .long xnb])), (af, .inr (0, [.ref afp, .ref afm, .ref afs, .ref aft, .ref afq, .int xfs, .int xba, .long xbe])), (afp, .inl (cJ, 25, .inr (.inl xpr))), (afm, .inl (cJ, 9, .inr (.inl xmx))), (afs, .inl (cJ, 3, .inr (.inl xsd))), (aft, .inl (cJ, 4, .inr (.inl xpt))), (afq, .inr (1, [.long xfa, .long xfb])), (au, .inr (2, [.ref auh, .ref auw, .int xsc, .int xtc])), (auh, .inl (cI, 20, .inl xhd)), (auw, .inl (cI, 4, .inl xwt))] (f_X6_alike xsc xtc xhd q1 q2) := by
  generalize hr : f_X6_alike xsc xtc xhd q1 q2 = r
  refine fr_entryL (by decide) rfl ?_
  intro p e s m args below meth c A Q H locs hQ C hret hlk w ls hl
  have hx := C.1
  have hb := C.2.1
  have hl : lv_has ls 3 [(0, .ref ax), (1, .int q1), (2, .int q2)] := hl
  have hr : (if (f_X2_isSource xsc q1) = 0 then (-1000002) else (if (f_X2_isUsed xtc q2) = 0 then (-1000003) else (Int32.toInt64 (f_X2_firstAlike xhd q1 q2)))) = r := hr
  refine lv_aload_n hx hb dX6_alike_0 rfl (lv_at hl 0 rfl) ?_
  refine fr_get C w fg_X6_26 0 rfl rfl dX6_alike_1 ?_
  refine lv_iload_n hx hb dX6_alike_4 rfl (lv_at hl 1 rfl) ?_
  refine fr_callIV (As := [.int q1]) (rest := []) C w kf_X2_isSource mw_12_18 (c_X2_isSource l D cI cJ au auh auw xsc xtc xhd xwt q1) ⟨Nat.le_of_ble_eq_true rfl, Nat.le_of_ble_eq_true rfl⟩ ⟨Nat.le_refl 0, Nat.le_refl 0⟩ [14, 15, 16] rfl rfl rfl (ws' := [(ax, .inr (6, [.ref ap, .ref ar, .ref au, .ref an, .ref ato, .long xrd, .long xal])), (ato, .inr (1, [.long xta, .long xtb])), (ap, .inr (4, [.ref apc, .int xpl])), (apc, .inl (cI, 47, .inl xpc)), (ar, .inr (5, [.ref ard, .int xso, .int xtr, .int xwi, .int xnu])), (ard, .inl (cI, 16, .inl xdr)), (an, .inr (3, [.ref af, .ref anq, .int xns, .int xnc])), (anq, .inr (1, [.long xna, .long xnb])), (af, .inr (0, [.ref afp, .ref afm, .ref afs, .ref aft, .ref afq, .int xfs, .int xba, .long xbe])), (afp, .inl (cJ, 25, .inr (.inl xpr))), (afm, .inl (cJ, 9, .inr (.inl xmx))), (afs, .inl (cJ, 3, .inr (.inl xsd))), (aft, .inl (cJ, 4, .inr (.inl xpt))), (afq, .inr (1, [.long xfa, .long xfb])), (au, .inr (2, [.ref auh, .ref auw, .int xsc, .int xtc])), (auh, .inl (cI, 20, .inl xhd)), (auw, .inl (cI, 4, .inl xwt))]) rfl rfl rfl rfl hl.1 rfl (Nat.le_of_ble_eq_true rfl) dX6_alike_5 (fun H locs w => ?_)
  refine lv_if_ne (tgt := 15) hx hb dX6_alike_8 (by decide) (fun c8_1 => ?_) (fun c8_1 => ?_)
  · have hr := (if_neg c8_1).symm.trans hr
    refine lv_aload_n hx hb dX6_alike_15 rfl (lv_at hl 0 rfl) ?_
    refine fr_get C w fg_X6_26 0 rfl rfl dX6_alike_16 ?_
    refine lv_iload_n hx hb dX6_alike_19 rfl (lv_at hl 2 rfl) ?_
    refine fr_callIV (As := [.int q2]) (rest := []) C w kf_X2_isUsed mw_15_13 (c_X2_isUsed l D cI cJ au auh auw xsc xtc xhd xwt q2) ⟨Nat.le_of_ble_eq_true rfl, Nat.le_of_ble_eq_true rfl⟩ ⟨Nat.le_refl 0, Nat.le_refl 0⟩ [14, 15, 16] rfl rfl rfl (ws' := [(ax, .inr (6, [.ref ap, .ref ar, .ref au, .ref an, .ref ato, .long xrd, .long xal])), (ato, .inr (1, [.long xta, .long xtb])), (ap, .inr (4, [.ref apc, .int xpl])), (apc, .inl (cI, 47, .inl xpc)), (ar, .inr (5, [.ref ard, .int xso, .int xtr, .int xwi, .int xnu])), (ard, .inl (cI, 16, .inl xdr)), (an, .inr (3, [.ref af, .ref anq, .int xns, .int xnc])), (anq, .inr (1, [.long xna, .long xnb])), (af, .inr (0, [.ref afp, .ref afm, .ref afs, .ref aft, .ref afq, .int xfs, .int xba, .long xbe])), (afp, .inl (cJ, 25, .inr (.inl xpr))), (afm, .inl (cJ, 9, .inr (.inl xmx))), (afs, .inl (cJ, 3, .inr (.inl xsd))), (aft, .inl (cJ, 4, .inr (.inl xpt))), (afq, .inr (1, [.long xfa, .long xfb])), (au, .inr (2, [.ref auh, .ref auw, .int xsc, .int xtc])), (auh, .inl (cI, 20, .inl xhd)), (auw, .inl (cI, 4, .inl xwt))]) rfl rfl rfl rfl hl.1 rfl (Nat.le_of_ble_eq_true rfl) dX6_alike_20 (fun H locs w => ?_)
    refine lv_if_ne (tgt := 30) hx hb dX6_alike_23 (by decide) (fun c23_2 => ?_) (fun c23_2 => ?_)
    · have hr := (if_neg c23_2).symm.trans hr
      refine lv_aload_n hx hb dX6_alike_30 rfl (lv_at hl 0 rfl) ?_
      refine fr_get C w fg_X6_26 0 rfl rfl dX6_alike_31 ?_
      refine lv_iload_n hx hb dX6_alike_34 rfl (lv_at hl 1 rfl) ?_
      refine lv_iload_n hx hb dX6_alike_35 rfl (lv_at hl 2 rfl) ?_
      refine fr_callIV (As := [.int q1, .int q2]) (rest := []) C w kf_X2_firstAlike mw_15_21 (c_X2_firstAlike l D cI cJ au auh auw xsc xtc xhd xwt q1 q2 (src_of (by assumption) hsc)) ⟨Nat.le_of_ble_eq_true rfl, Nat.le_of_ble_eq_true rfl⟩ ⟨Nat.le_refl 0, Nat.le_refl 0⟩ [14, 15, 16] rfl rfl rfl (ws' := [(ax, .inr (6, [.ref ap, .ref ar, .ref au, .ref an, .ref ato, .long xrd, .long xal])), (ato, .inr (1, [.long xta, .long xtb])), (ap, .inr (4, [.ref apc, .int xpl])), (apc, .inl (cI, 47, .inl xpc)), (ar, .inr (5, [.ref ard, .int xso, .int xtr, .int xwi, .int xnu])), (ard, .inl (cI, 16, .inl xdr)), (an, .inr (3, [.ref af, .ref anq, .int xns, .int xnc])), (anq, .inr (1, [.long xna, .long xnb])), (af, .inr (0, [.ref afp, .ref afm, .ref afs, .ref aft, .ref afq, .int xfs, .int xba, .long xbe])), (afp, .inl (cJ, 25, .inr (.inl xpr))), (afm, .inl (cJ, 9, .inr (.inl xmx))), (afs, .inl (cJ, 3, .inr (.inl xsd))), (aft, .inl (cJ, 4, .inr (.inl xpt))), (afq, .inr (1, [.long xfa, .long xfb])), (au, .inr (2, [.ref auh, .ref auw, .int xsc, .int xtc])), (auh, .inl (cI, 20, .inl xhd)), (auw, .inl (cI, 4, .inl xwt))]) rfl rfl rfl rfl hl.1 rfl (Nat.le_of_ble_eq_true rfl) dX6_alike_36 (fun H locs w => ?_)
      refine lv_i2l (v := (Int32.toInt64 (f_X2_firstAlike xhd q1 q2))) hx hb dX6_alike_39 rfl ?_
      subst hr hQ
      exact fr_lret C hret hlk w rfl rfl dX6_alike_40
    · have hr := (if_pos c23_2).symm.trans hr
      refine lv_ldc2 hx hb C.2.2.2.1 (C.2.2.2.2.1 _ mw_4_23) dX6_alike_26 ?_
      subst hr hQ
      exact fr_lret C hret hlk w rfl rfl dX6_alike_29
  · have hr := (if_pos c8_1).symm.trans hr
    refine lv_ldc2 hx hb C.2.2.2.1 (C.2.2.2.2.1 _ mw_10_20) dX6_alike_11 ?_
    subst hr hQ
    exact fr_lret C hret hlk w rfl rfl dX6_alike_14
def f_X6_count (xrd : Int64) (xal : Int64) (xpl : Int32) (xsc : Int32) (xtc : Int32) (q1 : Int32) : Int64 := (if q1 = 0 then (Int32.toInt64 xsc) else (if q1 = 1 then (Int32.toInt64 xtc) else (if q1 = 2 then (Int32.toInt64 xpl) else (if q1 = 3 then xrd else (if q1 = 4 then xal else (-1000003))))))
set_option maxRecDepth 100000 in
set_option maxHeartbeats 4000000 in
theorem c_X6_count (l : Launch) (D : va_G) (cI cJ : ClassId) (ax ap ar au an ato apc ard af anq afp afm afs aft afq auh auw : Nat) (xrd : Int64) (xal : Int64) (xta : Int64) (xtb : Int64) (xpl : Int32) (xpc : Nat → Int32) (xso : Int32) (xtr : Int32) (xwi : Int32) (xnu : Int32) (xdr : Nat → Int32) (xns : Int32) (xnc : Int32) (xna : Int64) (xnb : Int64) (xfs : Int32) (xba : Int32) (xbe : Int64) (xpr : Nat → Int64) (xmx : Nat → Int64) (xsd : Nat → Int64) (xpt : Nat → Int64) (xfa : Int64) (xfb : Int64) (xsc : Int32) (xtc : Int32) (xhd : Nat → Int32) (xwt : Nat → Int32) (q1 : Int32) : CL l yX6_count cX6_count 2 0 D cI cJ [.ref ax, .int q1] [(ax, .inr (6, [.ref ap, .ref ar, .ref au, .ref an, .ref ato, .long xrd, .long xal])), (ato, .inr (1, [.long xta, .long xtb])), (ap, .inr (4, [.ref apc, .int xpl])), (apc, .inl (cI, 47, .inl xpc)), (ar, .inr (5, [.ref ard, .int xso, .int xtr, .int xwi, .int xnu])), (ard, .inl (cI, 16, .inl xdr)), (an, .inr (3, [.ref af, .ref anq, .int xns, .int xnc])), (anq, .inr (1, [.long xna, .long xnb])), (af, .inr (0, [.ref afp, .ref afm, .ref afs, .ref aft, .ref afq, .int xfs, .int xba, .long xbe])), (afp, .inl (cJ, 25, .inr (.inl xpr))), (afm, .inl (cJ, 9, .inr (.inl xmx))), (afs, .inl (cJ, 3, .inr (.inl xsd))), (aft, .inl (cJ, 4, .inr (.inl xpt))), (afq, .inr (1, [.long xfa, .long xfb])), (au, .inr (2, [.ref auh, .ref auw, .int xsc, .int xtc])), (auh, .inl (cI, 20, .inl xhd)), (auw, .inl (cI, 4, .inl xwt))] [(ax, .inr (6, [.ref ap, .ref ar, .ref au, .ref an, .ref ato, .long xrd, .long xal])), (ato, .inr (1, [.long xta, .long xtb])), (ap, .inr (4, [.ref apc, .int xpl])), (apc, .inl (cI, 47, .inl xpc)), (ar, .inr (5, [.ref ard, .int xso, .int xtr, .int xwi, .int xnu])), (ard, .inl (cI, 16, .inl xdr)), (an, .inr (3, [.ref af, .ref anq, .int xns, .int xnc])), (anq, .inr (1, [.long xna, .long xnb])), (af, .inr (0, [.ref afp, .ref afm, .ref afs, .ref aft, .ref afq, .int xfs, .int xba, .long xbe])), (afp, .inl (cJ, 25, .inr (.inl xpr))), (afm, .inl (cJ, 9, .inr (.inl xmx))), (afs, .inl (cJ, 3, .inr (.inl xsd))), (aft, .inl (cJ, 4, .inr (.inl xpt))), (afq, .inr (1, [.long xfa, .long xfb])), (au, .inr (2, [.ref auh, .ref auw, .int xsc, .int xtc])), (auh, .inl (cI, 20, .inl xhd)), (auw, .inl (cI, 4, .inl xwt))] (f_X6_count xrd xal xpl xsc xtc q1) := by
  generalize hr : f_X6_count xrd xal xpl xsc xtc q1 = r
  refine fr_entryL (by decide) rfl ?_
  intro p e s m args below meth c A Q H locs hQ C hret hlk w ls hl
  have hx := C.1
  have hb := C.2.1
  have hl : lv_has ls 2 [(0, .ref ax), (1, .int q1)] := hl
  have hr : (if q1 = 0 then (Int32.toInt64 xsc) else (if q1 = 1 then (Int32.toInt64 xtc) else (if q1 = 2 then (Int32.toInt64 xpl) else (if q1 = 3 then xrd else (if q1 = 4 then xal else (-1000003)))))) = r := hr
  refine lv_iload_n hx hb dX6_count_0 rfl (lv_at hl 1 rfl) ?_
  by_cases c1_s0 : q1 = 0
  · have hr := (if_pos c1_s0).symm.trans hr
    refine lv_tableIn (tgt := 36) (off := 35) hx hb dX6_count_1 (by rw [c1_s0]; decide) (by rw [c1_s0]; decide) (by rw [c1_s0]; decide) (by decide) ?_
    refine lv_aload_n hx hb dX6_count_36 rfl (lv_at hl 0 rfl) ?_
    refine fr_get C w fg_X6_26 0 rfl rfl dX6_count_37 ?_
    refine fr_get C w fg_X6_80 14 rfl rfl dX6_count_40 ?_
    refine lv_i2l (v := (Int32.toInt64 xsc)) hx hb dX6_count_43 rfl ?_
    subst hr hQ
    exact fr_lret C hret hlk w rfl rfl dX6_count_44
  · have hr := (if_neg c1_s0).symm.trans hr
    by_cases c1_s1 : q1 = 1
    · have hr := (if_pos c1_s1).symm.trans hr
      refine lv_tableIn (tgt := 45) (off := 44) hx hb dX6_count_1 (by rw [c1_s1]; decide) (by rw [c1_s1]; decide) (by rw [c1_s1]; decide) (by decide) ?_
      refine lv_aload_n hx hb dX6_count_45 rfl (lv_at hl 0 rfl) ?_
      refine fr_get C w fg_X6_26 0 rfl rfl dX6_count_46 ?_
      refine fr_get C w fg_X6_189 14 rfl rfl dX6_count_49 ?_
      refine lv_i2l (v := (Int32.toInt64 xtc)) hx hb dX6_count_52 rfl ?_
      subst hr hQ
      exact fr_lret C hret hlk w rfl rfl dX6_count_53
    · have hr := (if_neg c1_s1).symm.trans hr
      by_cases c1_s2 : q1 = 2
      · have hr := (if_pos c1_s2).symm.trans hr
        refine lv_tableIn (tgt := 54) (off := 53) hx hb dX6_count_1 (by rw [c1_s2]; decide) (by rw [c1_s2]; decide) (by rw [c1_s2]; decide) (by decide) ?_
        refine lv_aload_n hx hb dX6_count_54 rfl (lv_at hl 0 rfl) ?_
        refine fr_get C w fg_X6_12 0 rfl rfl dX6_count_55 ?_
        refine fr_get C w fg_X6_56 2 rfl rfl dX6_count_58 ?_
        refine lv_i2l (v := (Int32.toInt64 xpl)) hx hb dX6_count_61 rfl ?_
        subst hr hQ
        exact fr_lret C hret hlk w rfl rfl dX6_count_62
      · have hr := (if_neg c1_s2).symm.trans hr
        by_cases c1_s3 : q1 = 3
        · have hr := (if_pos c1_s3).symm.trans hr
          refine lv_tableIn (tgt := 63) (off := 62) hx hb dX6_count_1 (by rw [c1_s3]; decide) (by rw [c1_s3]; decide) (by rw [c1_s3]; decide) (by decide) ?_
          refine lv_aload_n hx hb dX6_count_63 rfl (lv_at hl 0 rfl) ?_
          refine fr_get C w fg_X6_76 0 rfl rfl dX6_count_64 ?_
          subst hr hQ
          exact fr_lret C hret hlk w rfl rfl dX6_count_67
        · have hr := (if_neg c1_s3).symm.trans hr
          by_cases c1_s4 : q1 = 4
          · have hr := (if_pos c1_s4).symm.trans hr
            refine lv_tableIn (tgt := 68) (off := 67) hx hb dX6_count_1 (by rw [c1_s4]; decide) (by rw [c1_s4]; decide) (by rw [c1_s4]; decide) (by decide) ?_
            refine lv_aload_n hx hb dX6_count_68 rfl (lv_at hl 0 rfl) ?_
            refine fr_get C w fg_X6_104 0 rfl rfl dX6_count_69 ?_
            subst hr hQ
            exact fr_lret C hret hlk w rfl rfl dX6_count_72
          · have hr := (if_neg c1_s4).symm.trans hr
            refine lv_tableOut (tgt := 73) hx hb dX6_count_1 (sw_out5 c1_s0 c1_s1 c1_s2 c1_s3 c1_s4) (by decide) ?_
            refine lv_ldc2 hx hb C.2.2.2.1 (C.2.2.2.2.1 _ mw_4_23) dX6_count_73 ?_
            subst hr hQ
            exact fr_lret C hret hlk w rfl rfl dX6_count_76
