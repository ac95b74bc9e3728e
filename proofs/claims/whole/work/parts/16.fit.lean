theorem mw_18_7 : Cond.fieldLink RX0 55 "MudShares$Fit" "below" "J" ∈ wsL_law := ck_18 _ (List.mem_of_getElem? (i := 7) rfl)
theorem mw_3_19 : Cond.fieldLink RX0 21 "MudShares$Fit" "parts" "[J" ∈ wsL_law := ck_3 _ (List.mem_of_getElem? (i := 19) rfl)
theorem mw_3_16 : Cond.fieldLink RX0 9 "MudShares$Fit" "products" "[J" ∈ wsL_law := ck_3 _ (List.mem_of_getElem? (i := 16) rfl)
theorem mw_18_23 : Cond.methodLink RX0 102 yX0_productOf ∈ wsL_law := ck_18 _ (List.mem_of_getElem? (i := 23) rfl)
theorem mw_19_2 : Cond.code yX0_productOf cX0_productOf 4 (some .long) ∈ wsL_law := ck_19 _ (List.mem_of_getElem? (i := 2) rfl)
theorem mw_3_7 : Cond.initialized RX0 ∈ wsL_law := ck_3 _ (List.mem_of_getElem? (i := 7) rfl)
theorem mw_19_0 : Cond.instanceMethod yX0_productOf ∈ wsL_law := ck_19 _ (List.mem_of_getElem? (i := 0) rfl)
theorem mw_19_1 : Cond.selects RX0 yX0_productOf yX0_productOf ∈ wsL_law := ck_19 _ (List.mem_of_getElem? (i := 1) rfl)
theorem mw_18_6 : Cond.fieldLink RX0 45 "MudShares$Fit" "base" "I" ∈ wsL_law := ck_18 _ (List.mem_of_getElem? (i := 6) rfl)
theorem mw_3_17 : Cond.fieldLink RX0 15 "MudShares$Fit" "matrix" "[J" ∈ wsL_law := ck_3 _ (List.mem_of_getElem? (i := 17) rfl)
theorem mw_19_11 : Cond.methodLink RX0 99 yX0_entry ∈ wsL_law := ck_19 _ (List.mem_of_getElem? (i := 11) rfl)
theorem mw_19_14 : Cond.code yX0_entry cX0_entry 4 (some .long) ∈ wsL_law := ck_19 _ (List.mem_of_getElem? (i := 14) rfl)
theorem mw_19_12 : Cond.instanceMethod yX0_entry ∈ wsL_law := ck_19 _ (List.mem_of_getElem? (i := 12) rfl)
theorem mw_19_13 : Cond.selects RX0 yX0_entry yX0_entry ∈ wsL_law := ck_19 _ (List.mem_of_getElem? (i := 13) rfl)
theorem mw_19_7 : Cond.methodLink RX0 88 yX0_cofactor ∈ wsL_law := ck_19 _ (List.mem_of_getElem? (i := 7) rfl)
theorem mw_19_10 : Cond.code yX0_cofactor cX0_cofactor 3 (some .long) ∈ wsL_law := ck_19 _ (List.mem_of_getElem? (i := 10) rfl)
theorem mw_19_8 : Cond.instanceMethod yX0_cofactor ∈ wsL_law := ck_19 _ (List.mem_of_getElem? (i := 8) rfl)
theorem mw_19_9 : Cond.selects RX0 yX0_cofactor yX0_cofactor ∈ wsL_law := ck_19 _ (List.mem_of_getElem? (i := 9) rfl)
theorem mw_20_22 : Cond.methodLink RX0 73 yX0_isOnly ∈ wsL_law := ck_20 _ (List.mem_of_getElem? (i := 22) rfl)
theorem mw_21_1 : Cond.code yX0_isOnly cX0_isOnly 1 (some .boolean) ∈ wsL_law := ck_21 _ (List.mem_of_getElem? (i := 1) rfl)
theorem mw_20_23 : Cond.instanceMethod yX0_isOnly ∈ wsL_law := ck_20 _ (List.mem_of_getElem? (i := 23) rfl)
theorem mw_21_0 : Cond.selects RX0 yX0_isOnly yX0_isOnly ∈ wsL_law := ck_21 _ (List.mem_of_getElem? (i := 0) rfl)
theorem mw_18_5 : Cond.fieldLink RX0 37 "MudShares$Fit" "set" "I" ∈ wsL_law := ck_18 _ (List.mem_of_getElem? (i := 5) rfl)
theorem mw_18_19 : Cond.methodLink RX0 77 yX0_fromBase ∈ wsL_law := ck_18 _ (List.mem_of_getElem? (i := 19) rfl)
theorem mw_18_22 : Cond.code yX0_fromBase cX0_fromBase 3 (some .long) ∈ wsL_law := ck_18 _ (List.mem_of_getElem? (i := 22) rfl)
theorem mw_18_20 : Cond.instanceMethod yX0_fromBase ∈ wsL_law := ck_18 _ (List.mem_of_getElem? (i := 20) rfl)
theorem mw_18_21 : Cond.selects RX0 yX0_fromBase yX0_fromBase ∈ wsL_law := ck_18 _ (List.mem_of_getElem? (i := 21) rfl)
theorem mw_27_11 : Cond.methodLink RX0 81 yX2_heldOf ∈ wsL_law := ck_27 _ (List.mem_of_getElem? (i := 11) rfl)
theorem fg_X0_55 : FG RX0 55 0 7 := ⟨RX0, TX0, 8, rfl, by decide, inlX0, mw_18_7⟩
theorem fg_X0_21 : FG RX0 21 0 3 := ⟨RX0, TX0, 8, rfl, by decide, inlX0, mw_3_19⟩
theorem fg_X0_9 : FG RX0 9 0 0 := ⟨RX0, TX0, 8, rfl, by decide, inlX0, mw_3_16⟩
theorem fg_X0_45 : FG RX0 45 0 6 := ⟨RX0, TX0, 8, rfl, by decide, inlX0, mw_18_6⟩
theorem fg_X0_15 : FG RX0 15 0 1 := ⟨RX0, TX0, 8, rfl, by decide, inlX0, mw_3_17⟩
theorem fg_X0_37 : FG RX0 37 0 5 := ⟨RX0, TX0, 8, rfl, by decide, inlX0, mw_18_5⟩
theorem kf_X0_productOf : KV RX0 yX0_productOf cX0_productOf 4 (some .long) 2 := ⟨mw_19_2, mw_19_0, mw_19_1, mw_3_7, by decide, by decide, by decide +kernel⟩
theorem kf_X0_entry : KV RX0 yX0_entry cX0_entry 4 (some .long) 2 := ⟨mw_19_14, mw_19_12, mw_19_13, mw_3_7, by decide, by decide, by decide +kernel⟩
theorem kf_X0_cofactor : KV RX0 yX0_cofactor cX0_cofactor 3 (some .long) 2 := ⟨mw_19_10, mw_19_8, mw_19_9, mw_3_7, by decide, by decide, by decide +kernel⟩
theorem kf_X0_isOnly : KV RX0 yX0_isOnly cX0_isOnly 1 (some .boolean) 0 := ⟨mw_21_1, mw_20_23, mw_21_0, mw_3_7, by decide, by decide, by decide +kernel⟩
theorem kf_X0_fromBase : KV RX0 yX0_fromBase cX0_fromBase 3 (some .long) 2 := ⟨mw_18_22, mw_18_20, mw_18_21, mw_3_7, by decide, by decide, by decide +kernel⟩
def L_X0_firstOf_2 (q1 : Int32) : Nat → Int32 → Int32
  | 0, _ => 0
  | n2 + 1, i1 => (if 4 ≤ i1 then 0 else (if (f_X6_isIn q1 i1) = 0 then L_X0_firstOf_2 q1 n2 (i1 + 1) else i1))
def f_X0_firstOf (q1 : Int32) : Int32 := L_X0_firstOf_2 q1 5 0
set_option maxRecDepth 100000 in
set_option maxHeartbeats 4000000 in
theorem c_X0_firstOf (l : Launch) (D : va_G) (cI cJ : ClassId) (q1 : Int32) : CI l yX0_firstOf cX0_firstOf 2 .int 1 D cI cJ [.int q1] [] [] (f_X0_firstOf q1) := by
  generalize hr : f_X0_firstOf q1 = r
  refine fr_entryI (by decide) rfl ?_
  intro p e s m args below meth c A Q H locs hQ C hret hlk w ls hl
  have hx := C.1
  have hb := C.2.1
  have hl : lv_has ls 2 [(0, .int q1)] := hl
  have hr : L_X0_firstOf_2 q1 5 0 = r := hr
  refine lv_iconst (v := 0) hx hb dX0_firstOf_0 (by decide) ?_
  refine lv_istore_n (lv' := [(1, .int 0), (0, .int q1)]) hx hb dX0_firstOf_1 rfl hl (by decide) rfl (fun ls hl => ?_)
  have LP2 : ∀ (n2 : Nat) (k2 : Nat) (i1 : Int32), i1 = nI k2 → k2 ≤ 4 → 4 < k2 + n2 → L_X0_firstOf_2 q1 n2 i1 = r → ∀ (H : Heap) (locs : List Loc), Wd D A s.heap H locs [] → ∀ (ls : Array Slot), lv_has ls 2 [(0, .int q1), (1, .int i1)] → W p l e (rl 1) s m args below meth c H locs 0 0 Q (F0 m 2 ls []) := by
    skip
    intro n2
    induction n2 with
    | zero => intro k2 i1 hk2 hkN2 hn2; exact absurd hn2 (by omega)
    | succ n2 ih2 =>
      intro k2 i1 hk2 hkN2 hn2 hr H locs w ls hl
      have hr : (if 4 ≤ i1 then 0 else (if (f_X6_isIn q1 i1) = 0 then L_X0_firstOf_2 q1 n2 (i1 + 1) else i1)) = r := hr
      refine lv_iload_n hx hb dX0_firstOf_2 rfl (lv_at hl 1 rfl) ?_
      refine lv_iconst (v := 4) hx hb dX0_firstOf_3 (by decide) ?_
      refine lv_icmp_ge (tgt := 23) hx hb dX0_firstOf_4 (by decide) (fun c4_2 => ?_) (fun c4_2 => ?_)
      · have hr := (if_pos c4_2).symm.trans hr
        refine lv_iconst (v := 0) hx hb dX0_firstOf_23 (by decide) ?_
        subst hr hQ
        exact fr_iret (W0 := []) C hret hlk w rfl rfl rfl dX0_firstOf_24
      · have hr := (if_neg c4_2).symm.trans hr
        have hkl2 := kl_of hk2 hkN2 (N := 4) (by decide) (by omega) c4_2
        refine lv_iload_n hx hb dX0_firstOf_7 rfl (lv_at hl 0 rfl) ?_
        refine lv_iload_n hx hb dX0_firstOf_8 rfl (lv_at hl 1 rfl) ?_
        refine fr_callIN (As := [.int q1, .int i1]) (rest := []) C w kf_X6_isIn C.2.2.2.2.2.2.2 (c_X6_isIn l D cI cJ q1 i1) ⟨Nat.le_of_ble_eq_true rfl, Nat.le_of_ble_eq_true rfl⟩ ⟨Nat.le_refl 0, Nat.le_refl 0⟩ [] rfl rfl rfl (ws' := []) rfl rfl hl.1 rfl (Nat.le_of_ble_eq_true rfl) dX0_firstOf_9 (fun H locs w => ?_)
        refine lv_if_eq (tgt := 17) hx hb dX0_firstOf_12 (by decide) (fun c12_3 => ?_) (fun c12_3 => ?_)
        · have hr := (if_pos c12_3).symm.trans hr
          refine lv_iinc (v := i1 + 1) (lv' := [(1, .int (i1 + 1)), (0, .int q1)]) hx hb dX0_firstOf_17 hl (k := 1) rfl rfl (by decide) rfl (fun ls hl => ?_)
          refine lv_goto (tgt := 2) hx hb dX0_firstOf_20 (by decide) ?_
          exact ih2 (k2 + 1) (i1 + 1) (by rw [hk2]; exact nI_1 k2) (by omega) (by omega) hr H locs w ls (lv_sub hl [1, 0] rfl)
        · have hr := (if_neg c12_3).symm.trans hr
          refine lv_iload_n hx hb dX0_firstOf_15 rfl (lv_at hl 1 rfl) ?_
          subst hr hQ
          exact fr_iret (W0 := []) C hret hlk w rfl rfl rfl dX0_firstOf_16
  exact LP2 5 0 0 (by decide) (by omega) (by omega) hr H locs w ls (lv_sub hl [1, 0] rfl)
def f_X0_isOnly (xbe : Int64) : Int32 := (if xbe ≤ 0 then 0 else 1)
set_option maxRecDepth 100000 in
set_option maxHeartbeats 4000000 in
theorem c_X0_isOnly (l : Launch) (D : va_G) (cI cJ : ClassId) (af afp afm afs aft afq : Nat) (xfs : Int32) (xba : Int32) (xbe : Int64) (xpr : Nat → Int64) (xmx : Nat → Int64) (xsd : Nat → Int64) (xpt : Nat → Int64) (xfa : Int64) (xfb : Int64)  : CI l yX0_isOnly cX0_isOnly 1 .boolean 0 D cI cJ [.ref af] [(af, .inr (0, [.ref afp, .ref afm, .ref afs, .ref aft, .ref afq, .int xfs, .int xba, .long xbe])), (afp, .inl (cJ, 25, .inr (.inl xpr))), (afm, .inl (cJ, 9, .inr (.inl xmx))), (afs, .inl (cJ, 3, .inr (.inl xsd))), (aft, .inl (cJ, 4, .inr (.inl xpt))), (afq, .inr (1, [.long xfa, .long xfb]))] [(af, .inr (0, [.ref afp, .ref afm, .ref afs, .ref aft, .ref afq, .int xfs, .int xba, .long xbe])), (afp, .inl (cJ, 25, .inr (.inl xpr))), (afm, .inl (cJ, 9, .inr (.inl xmx))), (afs, .inl (cJ, 3, .inr (.inl xsd))), (aft, .inl (cJ, 4, .inr (.inl xpt))), (afq, .inr (1, [.long xfa, .long xfb]))] (f_X0_isOnly xbe) := by
  generalize hr : f_X0_isOnly xbe = r
  refine fr_entryI (by decide) rfl ?_
  intro p e s m args below meth c A Q H locs hQ C hret hlk w ls hl
  have hx := C.1
  have hb := C.2.1
  have hl : lv_has ls 1 [(0, .ref af)] := hl
  have hr : (if xbe ≤ 0 then 0 else 1) = r := hr
  refine lv_aload_n hx hb dX0_isOnly_0 rfl (lv_at hl 0 rfl) ?_
  refine fr_get C w fg_X0_55 0 rfl rfl dX0_isOnly_1 ?_
  refine lv_lconst (v := 0) hx hb dX0_isOnly_4 (by decide) ?_
  refine fr_lle (tgt := 13) hx hb dX0_isOnly_5 dX0_isOnly_6 (by decide) (fun c6_1 => ?_) (fun c6_1 => ?_)
  · have hr := (if_pos c6_1).symm.trans hr
    refine lv_iconst (v := 0) hx hb dX0_isOnly_13 (by decide) ?_
    subst hr hQ
    exact fr_iret (W0 := []) C hret hlk w rfl rfl rfl dX0_isOnly_14
  · have hr := (if_neg c6_1).symm.trans hr
    refine lv_iconst (v := 1) hx hb dX0_isOnly_9 (by decide) ?_
    refine lv_goto (tgt := 14) hx hb dX0_isOnly_10 (by decide) ?_
    subst hr hQ
    exact fr_iret (W0 := []) C hret hlk w rfl rfl rfl dX0_isOnly_14
theorem b_X0_isOnly (xbe : Int64) : (f_X0_isOnly xbe) = 0 ∨ (f_X0_isOnly xbe) = 1 := by
  unfold f_X0_isOnly
  try dsimp only
  repeat (first | exact Or.inl rfl | exact Or.inr rfl | split)
def f_X0_partOf (xpt : Nat → Int64) (q1 : Int32) : Int64 := (if q1 < 0 then 0 else (if 4 ≤ q1 then 0 else xpt (Int32.toNatClampNeg q1)))
set_option maxRecDepth 100000 in
set_option maxHeartbeats 4000000 in
theorem c_X0_partOf (l : Launch) (D : va_G) (cI cJ : ClassId) (af afp afm afs aft afq : Nat) (xfs : Int32) (xba : Int32) (xbe : Int64) (xpr : Nat → Int64) (xmx : Nat → Int64) (xsd : Nat → Int64) (xpt : Nat → Int64) (xfa : Int64) (xfb : Int64) (q1 : Int32) : CL l yX0_partOf cX0_partOf 2 0 D cI cJ [.ref af, .int q1] [(af, .inr (0, [.ref afp, .ref afm, .ref afs, .ref aft, .ref afq, .int xfs, .int xba, .long xbe])), (afp, .inl (cJ, 25, .inr (.inl xpr))), (afm, .inl (cJ, 9, .inr (.inl xmx))), (afs, .inl (cJ, 3, .inr (.inl xsd))), (aft, .inl (cJ, 4, .inr (.inl xpt))), (afq, .inr (1, [.long xfa, .long xfb]))] [(af, .inr (0, [.ref afp, .ref afm, .ref afs, .ref aft, .ref afq, .int xfs, .int xba, .long xbe])), (afp, .inl (cJ, 25, .inr (.inl xpr))), (afm, .inl (cJ, 9, .inr (.inl xmx))), (afs, .inl (cJ, 3, .inr (.inl xsd))), (aft, .inl (cJ, 4, .inr (.inl xpt))), (afq, .inr (1, [.long xfa, .long xfb]))] (f_X0_partOf xpt q1) := by
  generalize hr : f_X0_partOf xpt q1 = r
  refine fr_entryL (by decide) rfl ?_
  intro p e s m args below meth c A Q H locs hQ C hret hlk w ls hl
  have hx := C.1
  have hb := C.2.1
  have hl : lv_has ls 2 [(0, .ref af), (1, .int q1)] := hl
  have hr : (if q1 < 0 then 0 else (if 4 ≤ q1 then 0 else xpt (Int32.toNatClampNeg q1))) = r := hr
  refine lv_iload_n hx hb dX0_partOf_0 rfl (lv_at hl 1 rfl) ?_
  refine lv_if_lt (tgt := 18) hx hb dX0_partOf_1 (by decide) (fun c1_1 => ?_) (fun c1_1 => ?_)
  · have hr := (if_pos c1_1).symm.trans hr
    refine lv_lconst (v := 0) hx hb dX0_partOf_18 (by decide) ?_
    subst hr hQ
    exact fr_lret C hret hlk w rfl rfl dX0_partOf_19
  · have hr := (if_neg c1_1).symm.trans hr
    refine lv_iload_n hx hb dX0_partOf_4 rfl (lv_at hl 1 rfl) ?_
    refine lv_iconst (v := 4) hx hb dX0_partOf_5 (by decide) ?_
    refine lv_icmp_ge (tgt := 18) hx hb dX0_partOf_6 (by decide) (fun c6_2 => ?_) (fun c6_2 => ?_)
    · have hr := (if_pos c6_2).symm.trans hr
      refine lv_lconst (v := 0) hx hb dX0_partOf_18 (by decide) ?_
      subst hr hQ
      exact fr_lret C hret hlk w rfl rfl dX0_partOf_19
    · have hr := (if_neg c6_2).symm.trans hr
      refine lv_aload_n hx hb dX0_partOf_9 rfl (lv_at hl 0 rfl) ?_
      refine fr_get C w fg_X0_21 0 rfl rfl dX0_partOf_10 ?_
      refine lv_iload_n hx hb dX0_partOf_13 rfl (lv_at hl 1 rfl) ?_
      refine fr_lald C w 4 rfl (vi_guard (by assumption) (by assumption) (by decide)) dX0_partOf_14 ?_
      refine lv_goto (tgt := 19) hx hb dX0_partOf_15 (by decide) ?_
      subst hr hQ
      exact fr_lret C hret hlk w rfl rfl dX0_partOf_19
def f_X0_productOf (xpr : Nat → Int64) (ro : Int32) (ot : Int32) : Int64 := (if ((ro * 5) + ot) < 0 then 0 else (if 25 ≤ ((ro * 5) + ot) then 0 else xpr (Int32.toNatClampNeg ((ro * 5) + ot))))
set_option maxRecDepth 100000 in
set_option maxHeartbeats 4000000 in
theorem c_X0_productOf (l : Launch) (D : va_G) (cI cJ : ClassId) (af afp afm afs aft afq : Nat) (xfs : Int32) (xba : Int32) (xbe : Int64) (xpr : Nat → Int64) (xmx : Nat → Int64) (xsd : Nat → Int64) (xpt : Nat → Int64) (xfa : Int64) (xfb : Int64) (ro : Int32) (ot : Int32) : CL l yX0_productOf cX0_productOf 4 0 D cI cJ [.ref af, .int ro, .int ot] [(af, .inr (0, [.ref afp, .ref afm, .ref afs, .ref aft, .ref afq, .int xfs, .int xba, .long xbe])), (afp, .inl (cJ, 25, .inr (.inl xpr))), (afm, .inl (cJ, 9, .inr (.inl xmx))), (afs, .inl (cJ, 3, .inr (.inl xsd))), (aft, .inl (cJ, 4, .inr (.inl xpt))), (afq, .inr (1, [.long xfa, .long xfb]))] [(af, .inr (0, [.ref afp, .ref afm, .ref afs, .ref aft, .ref afq, .int xfs, .int xba, .long xbe])), (afp, .inl (cJ, 25, .inr (.inl xpr))), (afm, .inl (cJ, 9, .inr (.inl xmx))), (afs, .inl (cJ, 3, .inr (.inl xsd))), (aft, .inl (cJ, 4, .inr (.inl xpt))), (afq, .inr (1, [.long xfa, .long xfb]))] (f_X0_productOf xpr ro ot) := by
  generalize hr : f_X0_productOf xpr ro ot = r
  refine fr_entryL (by decide) rfl ?_
  intro p e s m args below meth c A Q H locs hQ C hret hlk w ls hl
  have hx := C.1
  have hb := C.2.1
  have hl : lv_has ls 4 [(0, .ref af), (1, .int ro), (2, .int ot)] := hl
  have hr : (if ((ro * 5) + ot) < 0 then 0 else (if 25 ≤ ((ro * 5) + ot) then 0 else xpr (Int32.toNatClampNeg ((ro * 5) + ot)))) = r := hr
  refine lv_iload_n hx hb dX0_productOf_0 rfl (lv_at hl 1 rfl) ?_
  refine lv_iconst (v := 5) hx hb dX0_productOf_1 (by decide) ?_
  refine lv_imul hx hb dX0_productOf_2 ?_
  refine lv_iload_n hx hb dX0_productOf_3 rfl (lv_at hl 2 rfl) ?_
  refine lv_iadd hx hb dX0_productOf_4 ?_
  refine lv_istore_n (lv' := [(3, .int ((ro * 5) + ot)), (0, .ref af), (1, .int ro), (2, .int ot)]) hx hb dX0_productOf_5 rfl hl (by decide) rfl (fun ls hl => ?_)
  refine lv_iload_n hx hb dX0_productOf_6 rfl (lv_at hl 0 rfl) ?_
  refine lv_if_lt (tgt := 25) hx hb dX0_productOf_7 (by decide) (fun c7_1 => ?_) (fun c7_1 => ?_)
  · have hr := (if_pos c7_1).symm.trans hr
    refine lv_lconst (v := 0) hx hb dX0_productOf_25 (by decide) ?_
    subst hr hQ
    exact fr_lret C hret hlk w rfl rfl dX0_productOf_26
  · have hr := (if_neg c7_1).symm.trans hr
    refine lv_iload_n hx hb dX0_productOf_10 rfl (lv_at hl 0 rfl) ?_
    refine lv_bipush (v := 25) hx hb dX0_productOf_11 (by decide) ?_
    refine lv_icmp_ge (tgt := 25) hx hb dX0_productOf_13 (by decide) (fun c13_2 => ?_) (fun c13_2 => ?_)
    · have hr := (if_pos c13_2).symm.trans hr
      refine lv_lconst (v := 0) hx hb dX0_productOf_25 (by decide) ?_
      subst hr hQ
      exact fr_lret C hret hlk w rfl rfl dX0_productOf_26
    · have hr := (if_neg c13_2).symm.trans hr
      refine lv_aload_n hx hb dX0_productOf_16 rfl (lv_at hl 1 rfl) ?_
      refine fr_get C w fg_X0_9 0 rfl rfl dX0_productOf_17 ?_
      refine lv_iload_n hx hb dX0_productOf_20 rfl (lv_at hl 0 rfl) ?_
      refine fr_lald C w 1 rfl (vi_guard (by assumption) (by assumption) (by decide)) dX0_productOf_21 ?_
      refine lv_goto (tgt := 26) hx hb dX0_productOf_22 (by decide) ?_
      subst hr hQ
      exact fr_lret C hret hlk w rfl rfl dX0_productOf_26
def f_X0_fromBase (xba : Int32) (xpr : Nat → Int64) (ro : Int32) (ot : Int32) : Int64 := (((f_X0_productOf xpr ro ot) - (f_X0_productOf xpr ro xba)) - (f_X0_productOf xpr xba ot)) + (f_X0_productOf xpr xba xba)
set_option maxRecDepth 100000 in
set_option maxHeartbeats 4000000 in
theorem c_X0_fromBase (l : Launch) (D : va_G) (cI cJ : ClassId) (af afp afm afs aft afq : Nat) (xfs : Int32) (xba : Int32) (xbe : Int64) (xpr : Nat → Int64) (xmx : Nat → Int64) (xsd : Nat → Int64) (xpt : Nat → Int64) (xfa : Int64) (xfb : Int64) (ro : Int32) (ot : Int32) : CL l yX0_fromBase cX0_fromBase 3 1 D cI cJ [.ref af, .int ro, .int ot] [(af, .inr (0, [.ref afp, .ref afm, .ref afs, .ref aft, .ref afq, .int xfs, .int xba, .long xbe])), (afp, .inl (cJ, 25, .inr (.inl xpr))), (afm, .inl (cJ, 9, .inr (.inl xmx))), (afs, .inl (cJ, 3, .inr (.inl xsd))), (aft, .inl (cJ, 4, .inr (.inl xpt))), (afq, .inr (1, [.long xfa, .long xfb]))] [(af, .inr (0, [.ref afp, .ref afm, .ref afs, .ref aft, .ref afq, .int xfs, .int xba, .long xbe])), (afp, .inl (cJ, 25, .inr (.inl xpr))), (afm, .inl (cJ, 9, .inr (.inl xmx))), (afs, .inl (cJ, 3, .inr (.inl xsd))), (aft, .inl (cJ, 4, .inr (.inl xpt))), (afq, .inr (1, [.long xfa, .long xfb]))] (f_X0_fromBase xba xpr ro ot) := by
  generalize hr : f_X0_fromBase xba xpr ro ot = r
  refine fr_entryL (by decide) rfl ?_
  intro p e s m args below meth c A Q H locs hQ C hret hlk w ls hl
  have hx := C.1
  have hb := C.2.1
  have hl : lv_has ls 3 [(0, .ref af), (1, .int ro), (2, .int ot)] := hl
  have hr : (((f_X0_productOf xpr ro ot) - (f_X0_productOf xpr ro xba)) - (f_X0_productOf xpr xba ot)) + (f_X0_productOf xpr xba xba) = r := hr
  refine lv_aload_n hx hb dX0_fromBase_0 rfl (lv_at hl 0 rfl) ?_
  refine lv_iload_n hx hb dX0_fromBase_1 rfl (lv_at hl 1 rfl) ?_
  refine lv_iload_n hx hb dX0_fromBase_2 rfl (lv_at hl 2 rfl) ?_
  refine fr_callLV (As := [.int ro, .int ot]) (rest := []) C w kf_X0_productOf mw_18_23 (c_X0_productOf l D cI cJ af afp afm afs aft afq xfs xba xbe xpr xmx xsd xpt xfa xfb ro ot) ⟨Nat.le_of_ble_eq_true rfl, Nat.le_of_ble_eq_true rfl⟩ ⟨Nat.le_refl 0, Nat.le_refl 0⟩ [0, 1, 2, 3, 4, 5] rfl rfl rfl (ws' := [(af, .inr (0, [.ref afp, .ref afm, .ref afs, .ref aft, .ref afq, .int xfs, .int xba, .long xbe])), (afp, .inl (cJ, 25, .inr (.inl xpr))), (afm, .inl (cJ, 9, .inr (.inl xmx))), (afs, .inl (cJ, 3, .inr (.inl xsd))), (aft, .inl (cJ, 4, .inr (.inl xpt))), (afq, .inr (1, [.long xfa, .long xfb]))]) rfl rfl rfl rfl hl.1 rfl (Nat.le_of_ble_eq_true rfl) dX0_fromBase_3 (fun H locs w => ?_)
  refine lv_aload_n hx hb dX0_fromBase_6 rfl (lv_at hl 0 rfl) ?_
  refine lv_iload_n hx hb dX0_fromBase_7 rfl (lv_at hl 1 rfl) ?_
  refine lv_aload_n hx hb dX0_fromBase_8 rfl (lv_at hl 0 rfl) ?_
  refine fr_get C w fg_X0_45 0 rfl rfl dX0_fromBase_9 ?_
  refine fr_callLV (As := [.int ro, .int xba]) (rest := [.long (f_X0_productOf xpr ro ot)]) C w kf_X0_productOf mw_18_23 (c_X0_productOf l D cI cJ af afp afm afs aft afq xfs xba xbe xpr xmx xsd xpt xfa xfb ro xba) ⟨Nat.le_of_ble_eq_true rfl, Nat.le_of_ble_eq_true rfl⟩ ⟨Nat.le_refl 0, Nat.le_refl 0⟩ [0, 1, 2, 3, 4, 5] rfl rfl rfl (ws' := [(af, .inr (0, [.ref afp, .ref afm, .ref afs, .ref aft, .ref afq, .int xfs, .int xba, .long xbe])), (afp, .inl (cJ, 25, .inr (.inl xpr))), (afm, .inl (cJ, 9, .inr (.inl xmx))), (afs, .inl (cJ, 3, .inr (.inl xsd))), (aft, .inl (cJ, 4, .inr (.inl xpt))), (afq, .inr (1, [.long xfa, .long xfb]))]) rfl rfl rfl rfl hl.1 rfl (Nat.le_of_ble_eq_true rfl) dX0_fromBase_12 (fun H locs w => ?_)
  refine lv_lsub hx hb dX0_fromBase_15 ?_
  refine lv_aload_n hx hb dX0_fromBase_16 rfl (lv_at hl 0 rfl) ?_
  refine lv_aload_n hx hb dX0_fromBase_17 rfl (lv_at hl 0 rfl) ?_
  refine fr_get C w fg_X0_45 0 rfl rfl dX0_fromBase_18 ?_
  refine lv_iload_n hx hb dX0_fromBase_21 rfl (lv_at hl 2 rfl) ?_
  refine fr_callLV (As := [.int xba, .int ot]) (rest := [.long ((f_X0_productOf xpr ro ot) - (f_X0_productOf xpr ro xba))]) C w kf_X0_productOf mw_18_23 (c_X0_productOf l D cI cJ af afp afm afs aft afq xfs xba xbe xpr xmx xsd xpt xfa xfb xba ot) ⟨Nat.le_of_ble_eq_true rfl, Nat.le_of_ble_eq_true rfl⟩ ⟨Nat.le_refl 0, Nat.le_refl 0⟩ [0, 1, 2, 3, 4, 5] rfl rfl rfl (ws' := [(af, .inr (0, [.ref afp, .ref afm, .ref afs, .ref aft, .ref afq, .int xfs, .int xba, .long xbe])), (afp, .inl (cJ, 25, .inr (.inl xpr))), (afm, .inl (cJ, 9, .inr (.inl xmx))), (afs, .inl (cJ, 3, .inr (.inl xsd))), (aft, .inl (cJ, 4, .inr (.inl xpt))), (afq, .inr (1, [.long xfa, .long xfb]))]) rfl rfl rfl rfl hl.1 rfl (Nat.le_of_ble_eq_true rfl) dX0_fromBase_22 (fun H locs w => ?_)
  refine lv_lsub hx hb dX0_fromBase_25 ?_
  refine lv_aload_n hx hb dX0_fromBase_26 rfl (lv_at hl 0 rfl) ?_
  refine lv_aload_n hx hb dX0_fromBase_27 rfl (lv_at hl 0 rfl) ?_
  refine fr_get C w fg_X0_45 0 rfl rfl dX0_fromBase_28 ?_
  refine lv_aload_n hx hb dX0_fromBase_31 rfl (lv_at hl 0 rfl) ?_
  refine fr_get C w fg_X0_45 0 rfl rfl dX0_fromBase_32 ?_
  refine fr_callLV (As := [.int xba, .int xba]) (rest := [.long (((f_X0_productOf xpr ro ot) - (f_X0_productOf xpr ro xba)) - (f_X0_productOf xpr xba ot))]) C w kf_X0_productOf mw_18_23 (c_X0_productOf l D cI cJ af afp afm afs aft afq xfs xba xbe xpr xmx xsd xpt xfa xfb xba xba) ⟨Nat.le_of_ble_eq_true rfl, Nat.le_of_ble_eq_true rfl⟩ ⟨Nat.le_refl 0, Nat.le_refl 0⟩ [0, 1, 2, 3, 4, 5] rfl rfl rfl (ws' := [(af, .inr (0, [.ref afp, .ref afm, .ref afs, .ref aft, .ref afq, .int xfs, .int xba, .long xbe])), (afp, .inl (cJ, 25, .inr (.inl xpr))), (afm, .inl (cJ, 9, .inr (.inl xmx))), (afs, .inl (cJ, 3, .inr (.inl xsd))), (aft, .inl (cJ, 4, .inr (.inl xpt))), (afq, .inr (1, [.long xfa, .long xfb]))]) rfl rfl rfl rfl hl.1 rfl (Nat.le_of_ble_eq_true rfl) dX0_fromBase_35 (fun H locs w => ?_)
  refine lv_ladd hx hb dX0_fromBase_38 ?_
  subst hr hQ
  exact fr_lret C hret hlk w rfl rfl dX0_fromBase_39
def f_X0_otherAt (xba : Int32) (q1 : Int32) : Int32 := (if xba ≤ q1 then q1 + 1 else q1)
set_option maxRecDepth 100000 in
set_option maxHeartbeats 4000000 in
theorem c_X0_otherAt (l : Launch) (D : va_G) (cI cJ : ClassId) (af afp afm afs aft afq : Nat) (xfs : Int32) (xba : Int32) (xbe : Int64) (xpr : Nat → Int64) (xmx : Nat → Int64) (xsd : Nat → Int64) (xpt : Nat → Int64) (xfa : Int64) (xfb : Int64) (q1 : Int32) : CI l yX0_otherAt cX0_otherAt 2 .int 0 D cI cJ [.ref af, .int q1] [(af, .inr (0, [.ref afp, .ref afm, .ref afs, .ref aft, .ref afq, .int xfs, .int xba, .long xbe])), (afp, .inl (cJ, 25, .inr (.inl xpr))), (afm, .inl (cJ, 9, .inr (.inl xmx))), (afs, .inl (cJ, 3, .inr (.inl xsd))), (aft, .inl (cJ, 4, .inr (.inl xpt))), (afq, .inr (1, [.long xfa, .long xfb]))] [(af, .inr (0, [.ref afp, .ref afm, .ref afs, .ref aft, .ref afq, .int xfs, .int xba, .long xbe])), (afp, .inl (cJ, 25, .inr (.inl xpr))), (afm, .inl (cJ, 9, .inr (.inl xmx))), (afs, .inl (cJ, 3, .inr (.inl xsd))), (aft, .inl (cJ, 4, .inr (.inl xpt))), (afq, .inr (1, [.long xfa, .long xfb]))] (f_X0_otherAt xba q1) := by
  generalize hr : f_X0_otherAt xba q1 = r
  refine fr_entryI (by decide) rfl ?_
  intro p e s m args below meth c A Q H locs hQ C hret hlk w ls hl
  have hx := C.1
  have hb := C.2.1
  have hl : lv_has ls 2 [(0, .ref af), (1, .int q1)] := hl
  have hr : (if xba ≤ q1 then q1 + 1 else q1) = r := hr
  refine lv_iload_n hx hb dX0_otherAt_0 rfl (lv_at hl 1 rfl) ?_
  refine lv_aload_n hx hb dX0_otherAt_1 rfl (lv_at hl 0 rfl) ?_
  refine fr_get C w fg_X0_45 0 rfl rfl dX0_otherAt_2 ?_
  refine lv_icmp_ge (tgt := 12) hx hb dX0_otherAt_5 (by decide) (fun c5_1 => ?_) (fun c5_1 => ?_)
  · have hr := (if_pos c5_1).symm.trans hr
    refine lv_iload_n hx hb dX0_otherAt_12 rfl (lv_at hl 1 rfl) ?_
    refine lv_iconst (v := 1) hx hb dX0_otherAt_13 (by decide) ?_
    refine lv_iadd hx hb dX0_otherAt_14 ?_
    subst hr hQ
    exact fr_iret (W0 := []) C hret hlk w rfl rfl rfl dX0_otherAt_15
  · have hr := (if_neg c5_1).symm.trans hr
    refine lv_iload_n hx hb dX0_otherAt_8 rfl (lv_at hl 1 rfl) ?_
    refine lv_goto (tgt := 15) hx hb dX0_otherAt_9 (by decide) ?_
    subst hr hQ
    exact fr_iret (W0 := []) C hret hlk w rfl rfl rfl dX0_otherAt_15
def f_X0_entry (xmx : Nat → Int64) (q1 : Int32) (q2 : Int32) : Int64 := (if (((q1 - q1 / 3 * 3) * 3) + (q2 - q2 / 3 * 3)) < 0 then 0 else (if 9 ≤ (((q1 - q1 / 3 * 3) * 3) + (q2 - q2 / 3 * 3)) then 0 else xmx (Int32.toNatClampNeg (((q1 - q1 / 3 * 3) * 3) + (q2 - q2 / 3 * 3)))))
set_option maxRecDepth 100000 in
set_option maxHeartbeats 4000000 in
theorem c_X0_entry (l : Launch) (D : va_G) (cI cJ : ClassId) (af afp afm afs aft afq : Nat) (xfs : Int32) (xba : Int32) (xbe : Int64) (xpr : Nat → Int64) (xmx : Nat → Int64) (xsd : Nat → Int64) (xpt : Nat → Int64) (xfa : Int64) (xfb : Int64) (q1 : Int32) (q2 : Int32) : CL l yX0_entry cX0_entry 4 0 D cI cJ [.ref af, .int q1, .int q2] [(af, .inr (0, [.ref afp, .ref afm, .ref afs, .ref aft, .ref afq, .int xfs, .int xba, .long xbe])), (afp, .inl (cJ, 25, .inr (.inl xpr))), (afm, .inl (cJ, 9, .inr (.inl xmx))), (afs, .inl (cJ, 3, .inr (.inl xsd))), (aft, .inl (cJ, 4, .inr (.inl xpt))), (afq, .inr (1, [.long xfa, .long xfb]))] [(af, .inr (0, [.ref afp, .ref afm, .ref afs, .ref aft, .ref afq, .int xfs, .int xba, .long xbe])), (afp, .inl (cJ, 25, .inr (.inl xpr))), (afm, .inl (cJ, 9, .inr (.inl xmx))), (afs, .inl (cJ, 3, .inr (.inl xsd))), (aft, .inl (cJ, 4, .inr (.inl xpt))), (afq, .inr (1, [.long xfa, .long xfb]))] (f_X0_entry xmx q1 q2) := by
  generalize hr : f_X0_entry xmx q1 q2 = r
  refine fr_entryL (by decide) rfl ?_
  intro p e s m args below meth c A Q H locs hQ C hret hlk w ls hl
  have hx := C.1
  have hb := C.2.1
  have hl : lv_has ls 4 [(0, .ref af), (1, .int q1), (2, .int q2)] := hl
  have hr : (if (((q1 - q1 / 3 * 3) * 3) + (q2 - q2 / 3 * 3)) < 0 then 0 else (if 9 ≤ (((q1 - q1 / 3 * 3) * 3) + (q2 - q2 / 3 * 3)) then 0 else xmx (Int32.toNatClampNeg (((q1 - q1 / 3 * 3) * 3) + (q2 - q2 / 3 * 3))))) = r := hr
  refine lv_iload_n hx hb dX0_entry_0 rfl (lv_at hl 1 rfl) ?_
  refine lv_iconst (v := 3) hx hb dX0_entry_1 (by decide) ?_
  refine lv_irem hx hb dX0_entry_2 (by decide) ?_
  refine lv_iconst (v := 3) hx hb dX0_entry_3 (by decide) ?_
  refine lv_imul hx hb dX0_entry_4 ?_
  refine lv_iload_n hx hb dX0_entry_5 rfl (lv_at hl 2 rfl) ?_
  refine lv_iconst (v := 3) hx hb dX0_entry_6 (by decide) ?_
  refine lv_irem hx hb dX0_entry_7 (by decide) ?_
  refine lv_iadd hx hb dX0_entry_8 ?_
  refine lv_istore_n (lv' := [(3, .int (((q1 - q1 / 3 * 3) * 3) + (q2 - q2 / 3 * 3))), (0, .ref af), (1, .int q1), (2, .int q2)]) hx hb dX0_entry_9 rfl hl (by decide) rfl (fun ls hl => ?_)
  refine lv_iload_n hx hb dX0_entry_10 rfl (lv_at hl 0 rfl) ?_
  refine lv_if_lt (tgt := 29) hx hb dX0_entry_11 (by decide) (fun c11_1 => ?_) (fun c11_1 => ?_)
  · have hr := (if_pos c11_1).symm.trans hr
    refine lv_lconst (v := 0) hx hb dX0_entry_29 (by decide) ?_
    subst hr hQ
    exact fr_lret C hret hlk w rfl rfl dX0_entry_30
  · have hr := (if_neg c11_1).symm.trans hr
    refine lv_iload_n hx hb dX0_entry_14 rfl (lv_at hl 0 rfl) ?_
    refine lv_bipush (v := 9) hx hb dX0_entry_15 (by decide) ?_
    refine lv_icmp_ge (tgt := 29) hx hb dX0_entry_17 (by decide) (fun c17_2 => ?_) (fun c17_2 => ?_)
    · have hr := (if_pos c17_2).symm.trans hr
      refine lv_lconst (v := 0) hx hb dX0_entry_29 (by decide) ?_
      subst hr hQ
      exact fr_lret C hret hlk w rfl rfl dX0_entry_30
    · have hr := (if_neg c17_2).symm.trans hr
      refine lv_aload_n hx hb dX0_entry_20 rfl (lv_at hl 1 rfl) ?_
      refine fr_get C w fg_X0_15 0 rfl rfl dX0_entry_21 ?_
      refine lv_iload_n hx hb dX0_entry_24 rfl (lv_at hl 0 rfl) ?_
      refine fr_lald C w 2 rfl (vi_guard (by assumption) (by assumption) (by decide)) dX0_entry_25 ?_
      refine lv_goto (tgt := 30) hx hb dX0_entry_26 (by decide) ?_
      subst hr hQ
      exact fr_lret C hret hlk w rfl rfl dX0_entry_30
def f_X0_cofactor (xmx : Nat → Int64) (q1 : Int32) (q2 : Int32) : Int64 := ((f_X0_entry xmx (q1 + 1) (q2 + 1)) * (f_X0_entry xmx (q1 + 2) (q2 + 2))) - ((f_X0_entry xmx (q1 + 1) (q2 + 2)) * (f_X0_entry xmx (q1 + 2) (q2 + 1)))
set_option maxRecDepth 100000 in
set_option maxHeartbeats 4000000 in
theorem c_X0_cofactor (l : Launch) (D : va_G) (cI cJ : ClassId) (af afp afm afs aft afq : Nat) (xfs : Int32) (xba : Int32) (xbe : Int64) (xpr : Nat → Int64) (xmx : Nat → Int64) (xsd : Nat → Int64) (xpt : Nat → Int64) (xfa : Int64) (xfb : Int64) (q1 : Int32) (q2 : Int32) : CL l yX0_cofactor cX0_cofactor 3 1 D cI cJ [.ref af, .int q1, .int q2] [(af, .inr (0, [.ref afp, .ref afm, .ref afs, .ref aft, .ref afq, .int xfs, .int xba, .long xbe])), (afp, .inl (cJ, 25, .inr (.inl xpr))), (afm, .inl (cJ, 9, .inr (.inl xmx))), (afs, .inl (cJ, 3, .inr (.inl xsd))), (aft, .inl (cJ, 4, .inr (.inl xpt))), (afq, .inr (1, [.long xfa, .long xfb]))] [(af, .inr (0, [.ref afp, .ref afm, .ref afs, .ref aft, .ref afq, .int xfs, .int xba, .long xbe])), (afp, .inl (cJ, 25, .inr (.inl xpr))), (afm, .inl (cJ, 9, .inr (.inl xmx))), (afs, .inl (cJ, 3, .inr (.inl xsd))), (aft, .inl (cJ, 4, .inr (.inl xpt))), (afq, .inr (1, [.long xfa, .long xfb]))] (f_X0_cofactor xmx q1 q2) := by
  generalize hr : f_X0_cofactor xmx q1 q2 = r
  refine fr_entryL (by decide) rfl ?_
  intro p e s m args below meth c A Q H locs hQ C hret hlk w ls hl
  have hx := C.1
  have hb := C.2.1
  have hl : lv_has ls 3 [(0, .ref af), (1, .int q1), (2, .int q2)] := hl
  have hr : ((f_X0_entry xmx (q1 + 1) (q2 + 1)) * (f_X0_entry xmx (q1 + 2) (q2 + 2))) - ((f_X0_entry xmx (q1 + 1) (q2 + 2)) * (f_X0_entry xmx (q1 + 2) (q2 + 1))) = r := hr
  refine lv_aload_n hx hb dX0_cofactor_0 rfl (lv_at hl 0 rfl) ?_
  refine lv_iload_n hx hb dX0_cofactor_1 rfl (lv_at hl 1 rfl) ?_
  refine lv_iconst (v := 1) hx hb dX0_cofactor_2 (by decide) ?_
  refine lv_iadd hx hb dX0_cofactor_3 ?_
  refine lv_iload_n hx hb dX0_cofactor_4 rfl (lv_at hl 2 rfl) ?_
  refine lv_iconst (v := 1) hx hb dX0_cofactor_5 (by decide) ?_
  refine lv_iadd hx hb dX0_cofactor_6 ?_
  refine fr_callLV (As := [.int (q1 + 1), .int (q2 + 1)]) (rest := []) C w kf_X0_entry mw_19_11 (c_X0_entry l D cI cJ af afp afm afs aft afq xfs xba xbe xpr xmx xsd xpt xfa xfb (q1 + 1) (q2 + 1)) ⟨Nat.le_of_ble_eq_true rfl, Nat.le_of_ble_eq_true rfl⟩ ⟨Nat.le_refl 0, Nat.le_refl 0⟩ [0, 1, 2, 3, 4, 5] rfl rfl rfl (ws' := [(af, .inr (0, [.ref afp, .ref afm, .ref afs, .ref aft, .ref afq, .int xfs, .int xba, .long xbe])), (afp, .inl (cJ, 25, .inr (.inl xpr))), (afm, .inl (cJ, 9, .inr (.inl xmx))), (afs, .inl (cJ, 3, .inr (.inl xsd))), (aft, .inl (cJ, 4, .inr (.inl xpt))), (afq, .inr (1, [.long xfa, .long xfb]))]) rfl rfl rfl rfl hl.1 rfl (Nat.le_of_ble_eq_true rfl) dX0_cofactor_7 (fun H locs w => ?_)
  refine lv_aload_n hx hb dX0_cofactor_10 rfl (lv_at hl 0 rfl) ?_
  refine lv_iload_n hx hb dX0_cofactor_11 rfl (lv_at hl 1 rfl) ?_
  refine lv_iconst (v := 2) hx hb dX0_cofactor_12 (by decide) ?_
  refine lv_iadd hx hb dX0_cofactor_13 ?_
  refine lv_iload_n hx hb dX0_cofactor_14 rfl (lv_at hl 2 rfl) ?_
  refine lv_iconst (v := 2) hx hb dX0_cofactor_15 (by decide) ?_
  refine lv_iadd hx hb dX0_cofactor_16 ?_
  refine fr_callLV (As := [.int (q1 + 2), .int (q2 + 2)]) (rest := [.long (f_X0_entry xmx (q1 + 1) (q2 + 1))]) C w kf_X0_entry mw_19_11 (c_X0_entry l D cI cJ af afp afm afs aft afq xfs xba xbe xpr xmx xsd xpt xfa xfb (q1 + 2) (q2 + 2)) ⟨Nat.le_of_ble_eq_true rfl, Nat.le_of_ble_eq_true rfl⟩ ⟨Nat.le_refl 0, Nat.le_refl 0⟩ [0, 1, 2, 3, 4, 5] rfl rfl rfl (ws' := [(af, .inr (0, [.ref afp, .ref afm, .ref afs, .ref aft, .ref afq, .int xfs, .int xba, .long xbe])), (afp, .inl (cJ, 25, .inr (.inl xpr))), (afm, .inl (cJ, 9, .inr (.inl xmx))), (afs, .inl (cJ, 3, .inr (.inl xsd))), (aft, .inl (cJ, 4, .inr (.inl xpt))), (afq, .inr (1, [.long xfa, .long xfb]))]) rfl rfl rfl rfl hl.1 rfl (Nat.le_of_ble_eq_true rfl) dX0_cofactor_17 (fun H locs w => ?_)
  refine lv_lmul hx hb dX0_cofactor_20 ?_
  refine lv_aload_n hx hb dX0_cofactor_21 rfl (lv_at hl 0 rfl) ?_
  refine lv_iload_n hx hb dX0_cofactor_22 rfl (lv_at hl 1 rfl) ?_
  refine lv_iconst (v := 1) hx hb dX0_cofactor_23 (by decide) ?_
  refine lv_iadd hx hb dX0_cofactor_24 ?_
  refine lv_iload_n hx hb dX0_cofactor_25 rfl (lv_at hl 2 rfl) ?_
  refine lv_iconst (v := 2) hx hb dX0_cofactor_26 (by decide) ?_
  refine lv_iadd hx hb dX0_cofactor_27 ?_
  refine fr_callLV (As := [.int (q1 + 1), .int (q2 + 2)]) (rest := [.long ((f_X0_entry xmx (q1 + 1) (q2 + 1)) * (f_X0_entry xmx (q1 + 2) (q2 + 2)))]) C w kf_X0_entry mw_19_11 (c_X0_entry l D cI cJ af afp afm afs aft afq xfs xba xbe xpr xmx xsd xpt xfa xfb (q1 + 1) (q2 + 2)) ⟨Nat.le_of_ble_eq_true rfl, Nat.le_of_ble_eq_true rfl⟩ ⟨Nat.le_refl 0, Nat.le_refl 0⟩ [0, 1, 2, 3, 4, 5] rfl rfl rfl (ws' := [(af, .inr (0, [.ref afp, .ref afm, .ref afs, .ref aft, .ref afq, .int xfs, .int xba, .long xbe])), (afp, .inl (cJ, 25, .inr (.inl xpr))), (afm, .inl (cJ, 9, .inr (.inl xmx))), (afs, .inl (cJ, 3, .inr (.inl xsd))), (aft, .inl (cJ, 4, .inr (.inl xpt))), (afq, .inr (1, [.long xfa, .long xfb]))]) rfl rfl rfl rfl hl.1 rfl (Nat.le_of_ble_eq_true rfl) dX0_cofactor_28 (fun H locs w => ?_)
  refine lv_aload_n hx hb dX0_cofactor_31 rfl (lv_at hl 0 rfl) ?_
  refine lv_iload_n hx hb dX0_cofactor_32 rfl (lv_at hl 1 rfl) ?_
  refine lv_iconst (v := 2) hx hb dX0_cofactor_33 (by decide) ?_
  refine lv_iadd hx hb dX0_cofactor_34 ?_
  refine lv_iload_n hx hb dX0_cofactor_35 rfl (lv_at hl 2 rfl) ?_
  refine lv_iconst (v := 1) hx hb dX0_cofactor_36 (by decide) ?_
  refine lv_iadd hx hb dX0_cofactor_37 ?_
  refine fr_callLV (As := [.int (q1 + 2), .int (q2 + 1)]) (rest := [.long (f_X0_entry xmx (q1 + 1) (q2 + 2)), .long ((f_X0_entry xmx (q1 + 1) (q2 + 1)) * (f_X0_entry xmx (q1 + 2) (q2 + 2)))]) C w kf_X0_entry mw_19_11 (c_X0_entry l D cI cJ af afp afm afs aft afq xfs xba xbe xpr xmx xsd xpt xfa xfb (q1 + 2) (q2 + 1)) ⟨Nat.le_of_ble_eq_true rfl, Nat.le_of_ble_eq_true rfl⟩ ⟨Nat.le_refl 0, Nat.le_refl 0⟩ [0, 1, 2, 3, 4, 5] rfl rfl rfl (ws' := [(af, .inr (0, [.ref afp, .ref afm, .ref afs, .ref aft, .ref afq, .int xfs, .int xba, .long xbe])), (afp, .inl (cJ, 25, .inr (.inl xpr))), (afm, .inl (cJ, 9, .inr (.inl xmx))), (afs, .inl (cJ, 3, .inr (.inl xsd))), (aft, .inl (cJ, 4, .inr (.inl xpt))), (afq, .inr (1, [.long xfa, .long xfb]))]) rfl rfl rfl rfl hl.1 rfl (Nat.le_of_ble_eq_true rfl) dX0_cofactor_38 (fun H locs w => ?_)
  refine lv_lmul hx hb dX0_cofactor_41 ?_
  refine lv_lsub hx hb dX0_cofactor_42 ?_
  subst hr hQ
  exact fr_lret C hret hlk w rfl rfl dX0_cofactor_43
def L_X0_determinant_4 (xmx : Nat → Int64) : Nat → Int64 → Int32 → Int64 × Int32
  | 0, _, _ => (0, 0)
  | n4 + 1, i1, i2 => (if 3 ≤ i2 then (i1, i2) else L_X0_determinant_4 xmx n4 (i1 + ((xmx (Int32.toNatClampNeg i2)) * (f_X0_cofactor xmx 0 i2))) (i2 + 1))
def f_X0_determinant (xmx : Nat → Int64) : Int64 := ((fun (y4 : Int64 × Int32) => y4.1) (L_X0_determinant_4 xmx 4 0 0))
set_option maxRecDepth 100000 in
set_option maxHeartbeats 4000000 in
theorem c_X0_determinant (l : Launch) (D : va_G) (cI cJ : ClassId) (af afp afm afs aft afq : Nat) (xfs : Int32) (xba : Int32) (xbe : Int64) (xpr : Nat → Int64) (xmx : Nat → Int64) (xsd : Nat → Int64) (xpt : Nat → Int64) (xfa : Int64) (xfb : Int64)  : CL l yX0_determinant cX0_determinant 4 2 D cI cJ [.ref af] [(af, .inr (0, [.ref afp, .ref afm, .ref afs, .ref aft, .ref afq, .int xfs, .int xba, .long xbe])), (afp, .inl (cJ, 25, .inr (.inl xpr))), (afm, .inl (cJ, 9, .inr (.inl xmx))), (afs, .inl (cJ, 3, .inr (.inl xsd))), (aft, .inl (cJ, 4, .inr (.inl xpt))), (afq, .inr (1, [.long xfa, .long xfb]))] [(af, .inr (0, [.ref afp, .ref afm, .ref afs, .ref aft, .ref afq, .int xfs, .int xba, .long xbe])), (afp, .inl (cJ, 25, .inr (.inl xpr))), (afm, .inl (cJ, 9, .inr (.inl xmx))), (afs, .inl (cJ, 3, .inr (.inl xsd))), (aft, .inl (cJ, 4, .inr (.inl xpt))), (afq, .inr (1, [.long xfa, .long xfb]))] (f_X0_determinant xmx) := by
  generalize hr : f_X0_determinant xmx = r
  refine fr_entryL (by decide) rfl ?_
  intro p e s m args below meth c A Q H locs hQ C hret hlk w ls hl
  have hx := C.1
  have hb := C.2.1
  have hl : lv_has ls 4 [(0, .ref af)] := hl
  have hr : ((fun (y4 : Int64 × Int32) => y4.1) (L_X0_determinant_4 xmx 4 0 0)) = r := hr
  refine lv_lconst (v := 0) hx hb dX0_determinant_0 (by decide) ?_
  refine lv_lstore_n (lv' := [(1, .long 0), (0, .ref af)]) hx hb dX0_determinant_1 rfl hl (by decide) rfl (fun ls hl => ?_)
  refine lv_iconst (v := 0) hx hb dX0_determinant_2 (by decide) ?_
  refine lv_istore_n (lv' := [(3, .int 0), (1, .long 0), (0, .ref af)]) hx hb dX0_determinant_3 rfl hl (by decide) rfl (fun ls hl => ?_)
  obtain ⟨y4, hy4⟩ : ∃ y, y = L_X0_determinant_4 xmx 4 0 0 := ⟨_, rfl⟩
  have hr : y4.1 = r := by rw [hy4]; exact hr
  have X4 : ∀ (H : Heap) (locs : List Loc), Wd D A s.heap H locs [(af, .inr (0, [.ref afp, .ref afm, .ref afs, .ref aft, .ref afq, .int xfs, .int xba, .long xbe])), (afp, .inl (cJ, 25, .inr (.inl xpr))), (afm, .inl (cJ, 9, .inr (.inl xmx))), (afs, .inl (cJ, 3, .inr (.inl xsd))), (aft, .inl (cJ, 4, .inr (.inl xpt))), (afq, .inr (1, [.long xfa, .long xfb]))] → ∀ (ls : Array Slot), lv_has ls 4 [(0, .ref af), (1, .long y4.1), (3, .int y4.2)] → W p l e (rl 2) s m args below meth c H locs 0 0 Q (F0 m 31 ls []) := by
    intro H locs w ls hl
    refine lv_lload_n hx hb dX0_determinant_31 rfl (lv_at hl 1 rfl) ?_
    subst hr hQ
    exact fr_lret C hret hlk w rfl rfl dX0_determinant_32
  have LP4 : ∀ (n4 : Nat) (k4 : Nat) (i1 : Int64) (i2 : Int32), i2 = nI k4 → k4 ≤ 3 → 3 < k4 + n4 → L_X0_determinant_4 xmx n4 i1 i2 = y4 → ∀ (H : Heap) (locs : List Loc), Wd D A s.heap H locs [(af, .inr (0, [.ref afp, .ref afm, .ref afs, .ref aft, .ref afq, .int xfs, .int xba, .long xbe])), (afp, .inl (cJ, 25, .inr (.inl xpr))), (afm, .inl (cJ, 9, .inr (.inl xmx))), (afs, .inl (cJ, 3, .inr (.inl xsd))), (aft, .inl (cJ, 4, .inr (.inl xpt))), (afq, .inr (1, [.long xfa, .long xfb]))] → ∀ (ls : Array Slot), lv_has ls 4 [(0, .ref af), (1, .long i1), (3, .int i2)] → W p l e (rl 2) s m args below meth c H locs 0 0 Q (F0 m 4 ls []) := by
    clear hr
    intro n4
    induction n4 with
    | zero => intro k4 i1 i2 hk4 hkN4 hn4; exact absurd hn4 (by omega)
    | succ n4 ih4 =>
      intro k4 i1 i2 hk4 hkN4 hn4 hr H locs w ls hl
      have hr : (if 3 ≤ i2 then (i1, i2) else L_X0_determinant_4 xmx n4 (i1 + ((xmx (Int32.toNatClampNeg i2)) * (f_X0_cofactor xmx 0 i2))) (i2 + 1)) = y4 := hr
      refine lv_iload_n hx hb dX0_determinant_4 rfl (lv_at hl 2 rfl) ?_
      refine lv_iconst (v := 3) hx hb dX0_determinant_5 (by decide) ?_
      refine lv_icmp_ge (tgt := 31) hx hb dX0_determinant_6 (by decide) (fun c6_3 => ?_) (fun c6_3 => ?_)
      · have hr := (if_pos c6_3).symm.trans hr
        subst hr
        exact X4 H locs w ls (lv_sub hl [0, 1, 2] rfl)
      · have hr := (if_neg c6_3).symm.trans hr
        have hkl4 := kl_of hk4 hkN4 (N := 3) (by decide) (by omega) c6_3
        refine lv_lload_n hx hb dX0_determinant_9 rfl (lv_at hl 1 rfl) ?_
        refine lv_aload_n hx hb dX0_determinant_10 rfl (lv_at hl 0 rfl) ?_
        refine fr_get C w fg_X0_15 0 rfl rfl dX0_determinant_11 ?_
        refine lv_iload_n hx hb dX0_determinant_14 rfl (lv_at hl 2 rfl) ?_
        refine fr_lald C w 2 rfl (vi_ctr hk4 hkl4 (by omega) (by decide)) dX0_determinant_15 ?_
        refine lv_aload_n hx hb dX0_determinant_16 rfl (lv_at hl 0 rfl) ?_
        refine lv_iconst (v := 0) hx hb dX0_determinant_17 (by decide) ?_
        refine lv_iload_n hx hb dX0_determinant_18 rfl (lv_at hl 2 rfl) ?_
        refine fr_callLV (As := [.int 0, .int i2]) (rest := [.long (xmx (Int32.toNatClampNeg i2)), .long i1]) C w kf_X0_cofactor mw_19_7 (c_X0_cofactor l D cI cJ af afp afm afs aft afq xfs xba xbe xpr xmx xsd xpt xfa xfb 0 i2) ⟨Nat.le_of_ble_eq_true rfl, Nat.le_of_ble_eq_true rfl⟩ ⟨Nat.le_refl 0, Nat.le_refl 0⟩ [0, 1, 2, 3, 4, 5] rfl rfl rfl (ws' := [(af, .inr (0, [.ref afp, .ref afm, .ref afs, .ref aft, .ref afq, .int xfs, .int xba, .long xbe])), (afp, .inl (cJ, 25, .inr (.inl xpr))), (afm, .inl (cJ, 9, .inr (.inl xmx))), (afs, .inl (cJ, 3, .inr (.inl xsd))), (aft, .inl (cJ, 4, .inr (.inl xpt))), (afq, .inr (1, [.long xfa, .long xfb]))]) rfl rfl rfl rfl hl.1 rfl (Nat.le_of_ble_eq_true rfl) dX0_determinant_19 (fun H locs w => ?_)
        refine lv_lmul hx hb dX0_determinant_22 ?_
        refine lv_ladd hx hb dX0_determinant_23 ?_
        refine lv_lstore_n (lv' := [(1, .long (i1 + ((xmx (Int32.toNatClampNeg i2)) * (f_X0_cofactor xmx 0 i2)))), (0, .ref af), (3, .int i2)]) hx hb dX0_determinant_24 rfl hl (by decide) rfl (fun ls hl => ?_)
        refine lv_iinc (v := i2 + 1) (lv' := [(3, .int (i2 + 1)), (1, .long (i1 + ((xmx (Int32.toNatClampNeg i2)) * (f_X0_cofactor xmx 0 i2)))), (0, .ref af)]) hx hb dX0_determinant_25 hl (k := 2) rfl rfl (by decide) rfl (fun ls hl => ?_)
        refine lv_goto (tgt := 4) hx hb dX0_determinant_28 (by decide) ?_
        exact ih4 (k4 + 1) (i1 + ((xmx (Int32.toNatClampNeg i2)) * (f_X0_cofactor xmx 0 i2))) (i2 + 1) (by rw [hk4]; exact nI_1 k4) (by omega) (by omega) hr H locs w ls (lv_sub hl [2, 1, 0] rfl)
  exact LP4 4 0 0 0 (by decide) (by omega) (by omega) hy4.symm H locs w ls (lv_sub hl [2, 1, 0] rfl)
def f_X0_putPart (xpt : Nat → Int64) (q1 : Int32) (q2 : Int64) : (Nat → Int64) := (if q1 < 0 then xpt else (if 4 ≤ q1 then xpt else vp_updL xpt (Int32.toNatClampNeg q1) q2))
set_option maxRecDepth 100000 in
set_option maxHeartbeats 4000000 in
theorem c_X0_putPart (l : Launch) (D : va_G) (cI cJ : ClassId) (af afp afm afs aft afq : Nat) (xfs : Int32) (xba : Int32) (xbe : Int64) (xpr : Nat → Int64) (xmx : Nat → Int64) (xsd : Nat → Int64) (xpt : Nat → Int64) (xfa : Int64) (xfb : Int64) (q1 : Int32) (q2 : Int64) : CV l yX0_putPart cX0_putPart 4 0 D cI cJ [.ref af, .int q1, .long q2] [(af, .inr (0, [.ref afp, .ref afm, .ref afs, .ref aft, .ref afq, .int xfs, .int xba, .long xbe])), (afp, .inl (cJ, 25, .inr (.inl xpr))), (afm, .inl (cJ, 9, .inr (.inl xmx))), (afs, .inl (cJ, 3, .inr (.inl xsd))), (aft, .inl (cJ, 4, .inr (.inl xpt))), (afq, .inr (1, [.long xfa, .long xfb]))] [(af, .inr (0, [.ref afp, .ref afm, .ref afs, .ref aft, .ref afq, .int xfs, .int xba, .long xbe])), (afp, .inl (cJ, 25, .inr (.inl xpr))), (afm, .inl (cJ, 9, .inr (.inl xmx))), (afs, .inl (cJ, 3, .inr (.inl xsd))), (aft, .inl (cJ, 4, .inr (.inl (f_X0_putPart xpt q1 q2)))), (afq, .inr (1, [.long xfa, .long xfb]))] := by
  generalize hr : f_X0_putPart xpt q1 q2 = r
  refine fr_entryV (by decide) rfl ?_
  intro p e s m args below meth c A Q H locs hQ C hret hlk w ls hl
  have hx := C.1
  have hb := C.2.1
  have hl : lv_has ls 4 [(0, .ref af), (1, .int q1), (2, .long q2)] := hl
  have hr : (if q1 < 0 then xpt else (if 4 ≤ q1 then xpt else vp_updL xpt (Int32.toNatClampNeg q1) q2)) = r := hr
  refine lv_iload_n hx hb dX0_putPart_0 rfl (lv_at hl 1 rfl) ?_
  refine lv_if_lt (tgt := 16) hx hb dX0_putPart_1 (by decide) (fun c1_1 => ?_) (fun c1_1 => ?_)
  · have hr := (if_pos c1_1).symm.trans hr
    subst hr hQ
    exact fr_vret C hret hlk w rfl dX0_putPart_16
  · have hr := (if_neg c1_1).symm.trans hr
    refine lv_iload_n hx hb dX0_putPart_4 rfl (lv_at hl 1 rfl) ?_
    refine lv_iconst (v := 4) hx hb dX0_putPart_5 (by decide) ?_
    refine lv_icmp_ge (tgt := 16) hx hb dX0_putPart_6 (by decide) (fun c6_2 => ?_) (fun c6_2 => ?_)
    · have hr := (if_pos c6_2).symm.trans hr
      subst hr hQ
      exact fr_vret C hret hlk w rfl dX0_putPart_16
    · have hr := (if_neg c6_2).symm.trans hr
      refine lv_aload_n hx hb dX0_putPart_9 rfl (lv_at hl 0 rfl) ?_
      refine fr_get C w fg_X0_21 0 rfl rfl dX0_putPart_10 ?_
      refine lv_iload_n hx hb dX0_putPart_13 rfl (lv_at hl 1 rfl) ?_
      refine lv_lload_n hx hb dX0_putPart_14 rfl (lv_at hl 2 rfl) ?_
      refine fr_last C w 4 rfl (vi_guard (by assumption) (by assumption) (by decide)) (ws' := [(af, .inr (0, [.ref afp, .ref afm, .ref afs, .ref aft, .ref afq, .int xfs, .int xba, .long xbe])), (afp, .inl (cJ, 25, .inr (.inl xpr))), (afm, .inl (cJ, 9, .inr (.inl xmx))), (afs, .inl (cJ, 3, .inr (.inl xsd))), (aft, .inl (cJ, 4, .inr (.inl (vp_updL xpt (Int32.toNatClampNeg q1) q2)))), (afq, .inr (1, [.long xfa, .long xfb]))]) rfl dX0_putPart_15 (fun H locs w => ?_)
      subst hr hQ
      exact fr_vret C hret hlk w rfl dX0_putPart_16
def L_X0_isGood_2 (xfs : Int32) (xbe : Int64) (xpt : Nat → Int64) : Nat → Int32 → Int32
  | 0, _ => 0
  | n2 + 1, i1 => (if 4 ≤ i1 then (f_X0_isOnly xbe) else (if (f_X6_isIn xfs i1) = 0 then L_X0_isGood_2 xfs xbe xpt n2 (i1 + 1) else (if 0 < (xpt (Int32.toNatClampNeg i1)) then L_X0_isGood_2 xfs xbe xpt n2 (i1 + 1) else 0)))
def f_X0_isGood (xfs : Int32) (xbe : Int64) (xpt : Nat → Int64) : Int32 := L_X0_isGood_2 xfs xbe xpt 5 0
set_option maxRecDepth 100000 in
set_option maxHeartbeats 4000000 in
theorem c_X0_isGood (l : Launch) (D : va_G) (cI cJ : ClassId) (af afp afm afs aft afq : Nat) (xfs : Int32) (xba : Int32) (xbe : Int64) (xpr : Nat → Int64) (xmx : Nat → Int64) (xsd : Nat → Int64) (xpt : Nat → Int64) (xfa : Int64) (xfb : Int64)  : CI l yX0_isGood cX0_isGood 2 .boolean 1 D cI cJ [.ref af] [(af, .inr (0, [.ref afp, .ref afm, .ref afs, .ref aft, .ref afq, .int xfs, .int xba, .long xbe])), (afp, .inl (cJ, 25, .inr (.inl xpr))), (afm, .inl (cJ, 9, .inr (.inl xmx))), (afs, .inl (cJ, 3, .inr (.inl xsd))), (aft, .inl (cJ, 4, .inr (.inl xpt))), (afq, .inr (1, [.long xfa, .long xfb]))] [(af, .inr (0, [.ref afp, .ref afm, .ref afs, .ref aft, .ref afq, .int xfs, .int xba, .long xbe])), (afp, .inl (cJ, 25, .inr (.inl xpr))), (afm, .inl (cJ, 9, .inr (.inl xmx))), (afs, .inl (cJ, 3, .inr (.inl xsd))), (aft, .inl (cJ, 4, .inr (.inl xpt))), (afq, .inr (1, [.long xfa, .long xfb]))] (f_X0_isGood xfs xbe xpt) := by
  generalize hr : f_X0_isGood xfs xbe xpt = r
  refine fr_entryI (by decide) rfl ?_
  intro p e s m args below meth c A Q H locs hQ C hret hlk w ls hl
  have hx := C.1
  have hb := C.2.1
  have hl : lv_has ls 2 [(0, .ref af)] := hl
  have hr : L_X0_isGood_2 xfs xbe xpt 5 0 = r := hr
  refine lv_iconst (v := 0) hx hb dX0_isGood_0 (by decide) ?_
  refine lv_istore_n (lv' := [(1, .int 0), (0, .ref af)]) hx hb dX0_isGood_1 rfl hl (by decide) rfl (fun ls hl => ?_)
  have LP2 : ∀ (n2 : Nat) (k2 : Nat) (i1 : Int32), i1 = nI k2 → k2 ≤ 4 → 4 < k2 + n2 → L_X0_isGood_2 xfs xbe xpt n2 i1 = r → ∀ (H : Heap) (locs : List Loc), Wd D A s.heap H locs [(af, .inr (0, [.ref afp, .ref afm, .ref afs, .ref aft, .ref afq, .int xfs, .int xba, .long xbe])), (afp, .inl (cJ, 25, .inr (.inl xpr))), (afm, .inl (cJ, 9, .inr (.inl xmx))), (afs, .inl (cJ, 3, .inr (.inl xsd))), (aft, .inl (cJ, 4, .inr (.inl xpt))), (afq, .inr (1, [.long xfa, .long xfb]))] → ∀ (ls : Array Slot), lv_has ls 2 [(0, .ref af), (1, .int i1)] → W p l e (rl 1) s m args below meth c H locs 0 0 Q (F0 m 2 ls []) := by
    skip
    intro n2
    induction n2 with
    | zero => intro k2 i1 hk2 hkN2 hn2; exact absurd hn2 (by omega)
    | succ n2 ih2 =>
      intro k2 i1 hk2 hkN2 hn2 hr H locs w ls hl
      have hr : (if 4 ≤ i1 then (f_X0_isOnly xbe) else (if (f_X6_isIn xfs i1) = 0 then L_X0_isGood_2 xfs xbe xpt n2 (i1 + 1) else (if 0 < (xpt (Int32.toNatClampNeg i1)) then L_X0_isGood_2 xfs xbe xpt n2 (i1 + 1) else 0))) = r := hr
      refine lv_iload_n hx hb dX0_isGood_2 rfl (lv_at hl 1 rfl) ?_
      refine lv_iconst (v := 4) hx hb dX0_isGood_3 (by decide) ?_
      refine lv_icmp_ge (tgt := 37) hx hb dX0_isGood_4 (by decide) (fun c4_2 => ?_) (fun c4_2 => ?_)
      · have hr := (if_pos c4_2).symm.trans hr
        refine lv_aload_n hx hb dX0_isGood_37 rfl (lv_at hl 0 rfl) ?_
        refine fr_callIV (As := []) (rest := []) C w kf_X0_isOnly mw_20_22 (c_X0_isOnly l D cI cJ af afp afm afs aft afq xfs xba xbe xpr xmx xsd xpt xfa xfb) ⟨Nat.le_of_ble_eq_true rfl, Nat.le_of_ble_eq_true rfl⟩ ⟨Nat.le_refl 0, Nat.le_refl 0⟩ [0, 1, 2, 3, 4, 5] rfl rfl rfl (ws' := [(af, .inr (0, [.ref afp, .ref afm, .ref afs, .ref aft, .ref afq, .int xfs, .int xba, .long xbe])), (afp, .inl (cJ, 25, .inr (.inl xpr))), (afm, .inl (cJ, 9, .inr (.inl xmx))), (afs, .inl (cJ, 3, .inr (.inl xsd))), (aft, .inl (cJ, 4, .inr (.inl xpt))), (afq, .inr (1, [.long xfa, .long xfb]))]) rfl rfl rfl rfl hl.1 rfl (Nat.le_of_ble_eq_true rfl) dX0_isGood_38 (fun H locs w => ?_)
        subst hr hQ
        exact fr_iret (W0 := []) C hret hlk w (nb_of (b_X0_isOnly xbe)) rfl rfl dX0_isGood_41
      · have hr := (if_neg c4_2).symm.trans hr
        have hkl2 := kl_of hk2 hkN2 (N := 4) (by decide) (by omega) c4_2
        refine lv_aload_n hx hb dX0_isGood_7 rfl (lv_at hl 0 rfl) ?_
        refine fr_get C w fg_X0_37 0 rfl rfl dX0_isGood_8 ?_
        refine lv_iload_n hx hb dX0_isGood_11 rfl (lv_at hl 1 rfl) ?_
        refine fr_callIN (As := [.int xfs, .int i1]) (rest := []) C w kf_X6_isIn C.2.2.2.2.2.2.2 (c_X6_isIn l D cI cJ xfs i1) ⟨Nat.le_of_ble_eq_true rfl, Nat.le_of_ble_eq_true rfl⟩ ⟨Nat.le_refl 0, Nat.le_refl 0⟩ [] rfl rfl rfl (ws' := [(af, .inr (0, [.ref afp, .ref afm, .ref afs, .ref aft, .ref afq, .int xfs, .int xba, .long xbe])), (afp, .inl (cJ, 25, .inr (.inl xpr))), (afm, .inl (cJ, 9, .inr (.inl xmx))), (afs, .inl (cJ, 3, .inr (.inl xsd))), (aft, .inl (cJ, 4, .inr (.inl xpt))), (afq, .inr (1, [.long xfa, .long xfb]))]) rfl rfl hl.1 rfl (Nat.le_of_ble_eq_true rfl) dX0_isGood_12 (fun H locs w => ?_)
        refine lv_if_eq (tgt := 31) hx hb dX0_isGood_15 (by decide) (fun c15_3 => ?_) (fun c15_3 => ?_)
        · have hr := (if_pos c15_3).symm.trans hr
          refine lv_iinc (v := i1 + 1) (lv' := [(1, .int (i1 + 1)), (0, .ref af)]) hx hb dX0_isGood_31 hl (k := 1) rfl rfl (by decide) rfl (fun ls hl => ?_)
          refine lv_goto (tgt := 2) hx hb dX0_isGood_34 (by decide) ?_
          exact ih2 (k2 + 1) (i1 + 1) (by rw [hk2]; exact nI_1 k2) (by omega) (by omega) hr H locs w ls (lv_sub hl [1, 0] rfl)
        · have hr := (if_neg c15_3).symm.trans hr
          refine lv_aload_n hx hb dX0_isGood_18 rfl (lv_at hl 0 rfl) ?_
          refine fr_get C w fg_X0_21 0 rfl rfl dX0_isGood_19 ?_
          refine lv_iload_n hx hb dX0_isGood_22 rfl (lv_at hl 1 rfl) ?_
          refine fr_lald C w 4 rfl (vi_ctr hk2 hkl2 (by omega) (by decide)) dX0_isGood_23 ?_
          refine lv_lconst (v := 0) hx hb dX0_isGood_24 (by decide) ?_
          refine fr_lgt (tgt := 31) hx hb dX0_isGood_25 dX0_isGood_26 (by decide) (fun c26_4 => ?_) (fun c26_4 => ?_)
          · have hr := (if_pos c26_4).symm.trans hr
            refine lv_iinc (v := i1 + 1) (lv' := [(1, .int (i1 + 1)), (0, .ref af)]) hx hb dX0_isGood_31 hl (k := 1) rfl rfl (by decide) rfl (fun ls hl => ?_)
            refine lv_goto (tgt := 2) hx hb dX0_isGood_34 (by decide) ?_
            exact ih2 (k2 + 1) (i1 + 1) (by rw [hk2]; exact nI_1 k2) (by omega) (by omega) hr H locs w ls (lv_sub hl [1, 0] rfl)
          · have hr := (if_neg c26_4).symm.trans hr
            refine lv_iconst (v := 0) hx hb dX0_isGood_29 (by decide) ?_
            subst hr hQ
            exact fr_iret (W0 := []) C hret hlk w rfl rfl rfl dX0_isGood_30
  exact LP2 5 0 0 (by decide) (by omega) (by omega) hr H locs w ls (lv_sub hl [1, 0] rfl)
def L_X0_pressAbove_16 (xba : Int32) (xpr : Nat → Int64) (xpt : Nat → Int64) (q1 : Int32) : Nat → Int64 → Int32 → Int64 × Int32
  | 0, _, _ => (0, 0)
  | n16 + 1, i1, i2 => (if 4 ≤ i2 then (i1, i2) else L_X0_pressAbove_16 xba xpr xpt q1 n16 (i1 + ((xpt (Int32.toNatClampNeg i2)) * (f_X0_fromBase xba xpr q1 i2))) (i2 + 1))
def f_X0_pressAbove (xba : Int32) (xbe : Int64) (xpr : Nat → Int64) (xpt : Nat → Int64) (q1 : Int32) : Int64 := ((fun (y16 : Int64 × Int32) => y16.1) (L_X0_pressAbove_16 xba xpr xpt q1 5 ((-xbe) * (f_X0_fromBase xba xpr q1 4)) 0))
set_option maxRecDepth 100000 in
set_option maxHeartbeats 4000000 in
theorem c_X0_pressAbove (l : Launch) (D : va_G) (cI cJ : ClassId) (af afp afm afs aft afq : Nat) (xfs : Int32) (xba : Int32) (xbe : Int64) (xpr : Nat → Int64) (xmx : Nat → Int64) (xsd : Nat → Int64) (xpt : Nat → Int64) (xfa : Int64) (xfb : Int64) (q1 : Int32) : CL l yX0_pressAbove cX0_pressAbove 5 2 D cI cJ [.ref af, .int q1] [(af, .inr (0, [.ref afp, .ref afm, .ref afs, .ref aft, .ref afq, .int xfs, .int xba, .long xbe])), (afp, .inl (cJ, 25, .inr (.inl xpr))), (afm, .inl (cJ, 9, .inr (.inl xmx))), (afs, .inl (cJ, 3, .inr (.inl xsd))), (aft, .inl (cJ, 4, .inr (.inl xpt))), (afq, .inr (1, [.long xfa, .long xfb]))] [(af, .inr (0, [.ref afp, .ref afm, .ref afs, .ref aft, .ref afq, .int xfs, .int xba, .long xbe])), (afp, .inl (cJ, 25, .inr (.inl xpr))), (afm, .inl (cJ, 9, .inr (.inl xmx))), (afs, .inl (cJ, 3, .inr (.inl xsd))), (aft, .inl (cJ, 4, .inr (.inl xpt))), (afq, .inr (1, [.long xfa, .long xfb]))] (f_X0_pressAbove xba xbe xpr xpt q1) := by
  generalize hr : f_X0_pressAbove xba xbe xpr xpt q1 = r
  refine fr_entryL (by decide) rfl ?_
  intro p e s m args below meth c A Q H locs hQ C hret hlk w ls hl
  have hx := C.1
  have hb := C.2.1
  have hl : lv_has ls 5 [(0, .ref af), (1, .int q1)] := hl
  have hr : ((fun (y16 : Int64 × Int32) => y16.1) (L_X0_pressAbove_16 xba xpr xpt q1 5 ((-xbe) * (f_X0_fromBase xba xpr q1 4)) 0)) = r := hr
  refine lv_aload_n hx hb dX0_pressAbove_0 rfl (lv_at hl 0 rfl) ?_
  refine fr_get C w fg_X0_55 0 rfl rfl dX0_pressAbove_1 ?_
  refine lv_lneg hx hb dX0_pressAbove_4 ?_
  refine lv_aload_n hx hb dX0_pressAbove_5 rfl (lv_at hl 0 rfl) ?_
  refine lv_iload_n hx hb dX0_pressAbove_6 rfl (lv_at hl 1 rfl) ?_
  refine lv_iconst (v := 4) hx hb dX0_pressAbove_7 (by decide) ?_
  refine fr_callLV (As := [.int q1, .int 4]) (rest := [.long (-xbe)]) C w kf_X0_fromBase mw_18_19 (c_X0_fromBase l D cI cJ af afp afm afs aft afq xfs xba xbe xpr xmx xsd xpt xfa xfb q1 4) ⟨Nat.le_of_ble_eq_true rfl, Nat.le_of_ble_eq_true rfl⟩ ⟨Nat.le_refl 0, Nat.le_refl 0⟩ [0, 1, 2, 3, 4, 5] rfl rfl rfl (ws' := [(af, .inr (0, [.ref afp, .ref afm, .ref afs, .ref aft, .ref afq, .int xfs, .int xba, .long xbe])), (afp, .inl (cJ, 25, .inr (.inl xpr))), (afm, .inl (cJ, 9, .inr (.inl xmx))), (afs, .inl (cJ, 3, .inr (.inl xsd))), (aft, .inl (cJ, 4, .inr (.inl xpt))), (afq, .inr (1, [.long xfa, .long xfb]))]) rfl rfl rfl rfl hl.1 rfl (Nat.le_of_ble_eq_true rfl) dX0_pressAbove_8 (fun H locs w => ?_)
  refine lv_lmul hx hb dX0_pressAbove_11 ?_
  refine lv_lstore_n (lv' := [(2, .long ((-xbe) * (f_X0_fromBase xba xpr q1 4))), (0, .ref af), (1, .int q1)]) hx hb dX0_pressAbove_12 rfl hl (by decide) rfl (fun ls hl => ?_)
  refine lv_iconst (v := 0) hx hb dX0_pressAbove_13 (by decide) ?_
  refine lv_istore (lv' := [(4, .int 0), (2, .long ((-xbe) * (f_X0_fromBase xba xpr q1 4))), (0, .ref af), (1, .int q1)]) hx hb dX0_pressAbove_14 hl (by decide) rfl (fun ls hl => ?_)
  obtain ⟨y16, hy16⟩ : ∃ y, y = L_X0_pressAbove_16 xba xpr xpt q1 5 ((-xbe) * (f_X0_fromBase xba xpr q1 4)) 0 := ⟨_, rfl⟩
  have hr : y16.1 = r := by rw [hy16]; exact hr
  have X16 : ∀ (H : Heap) (locs : List Loc), Wd D A s.heap H locs [(af, .inr (0, [.ref afp, .ref afm, .ref afs, .ref aft, .ref afq, .int xfs, .int xba, .long xbe])), (afp, .inl (cJ, 25, .inr (.inl xpr))), (afm, .inl (cJ, 9, .inr (.inl xmx))), (afs, .inl (cJ, 3, .inr (.inl xsd))), (aft, .inl (cJ, 4, .inr (.inl xpt))), (afq, .inr (1, [.long xfa, .long xfb]))] → ∀ (ls : Array Slot), lv_has ls 5 [(0, .ref af), (1, .int q1), (2, .long y16.1), (4, .int y16.2)] → W p l e (rl 2) s m args below meth c H locs 0 0 Q (F0 m 46 ls []) := by
    intro H locs w ls hl
    refine lv_lload_n hx hb dX0_pressAbove_46 rfl (lv_at hl 2 rfl) ?_
    subst hr hQ
    exact fr_lret C hret hlk w rfl rfl dX0_pressAbove_47
  have LP16 : ∀ (n16 : Nat) (k16 : Nat) (i1 : Int64) (i2 : Int32), i2 = nI k16 → k16 ≤ 4 → 4 < k16 + n16 → L_X0_pressAbove_16 xba xpr xpt q1 n16 i1 i2 = y16 → ∀ (H : Heap) (locs : List Loc), Wd D A s.heap H locs [(af, .inr (0, [.ref afp, .ref afm, .ref afs, .ref aft, .ref afq, .int xfs, .int xba, .long xbe])), (afp, .inl (cJ, 25, .inr (.inl xpr))), (afm, .inl (cJ, 9, .inr (.inl xmx))), (afs, .inl (cJ, 3, .inr (.inl xsd))), (aft, .inl (cJ, 4, .inr (.inl xpt))), (afq, .inr (1, [.long xfa, .long xfb]))] → ∀ (ls : Array Slot), lv_has ls 5 [(0, .ref af), (1, .int q1), (2, .long i1), (4, .int i2)] → W p l e (rl 2) s m args below meth c H locs 0 0 Q (F0 m 16 ls []) := by
    clear hr
    intro n16
    induction n16 with
    | zero => intro k16 i1 i2 hk16 hkN16 hn16; exact absurd hn16 (by omega)
    | succ n16 ih16 =>
      intro k16 i1 i2 hk16 hkN16 hn16 hr H locs w ls hl
      have hr : (if 4 ≤ i2 then (i1, i2) else L_X0_pressAbove_16 xba xpr xpt q1 n16 (i1 + ((xpt (Int32.toNatClampNeg i2)) * (f_X0_fromBase xba xpr q1 i2))) (i2 + 1)) = y16 := hr
      refine lv_iload hx hb dX0_pressAbove_16 (lv_at hl 3 rfl) ?_
      refine lv_iconst (v := 4) hx hb dX0_pressAbove_18 (by decide) ?_
      refine lv_icmp_ge (tgt := 46) hx hb dX0_pressAbove_19 (by decide) (fun c19_3 => ?_) (fun c19_3 => ?_)
      · have hr := (if_pos c19_3).symm.trans hr
        subst hr
        exact X16 H locs w ls (lv_sub hl [0, 1, 2, 3] rfl)
      · have hr := (if_neg c19_3).symm.trans hr
        have hkl16 := kl_of hk16 hkN16 (N := 4) (by decide) (by omega) c19_3
        refine lv_lload_n hx hb dX0_pressAbove_22 rfl (lv_at hl 2 rfl) ?_
        refine lv_aload_n hx hb dX0_pressAbove_23 rfl (lv_at hl 0 rfl) ?_
        refine fr_get C w fg_X0_21 0 rfl rfl dX0_pressAbove_24 ?_
        refine lv_iload hx hb dX0_pressAbove_27 (lv_at hl 3 rfl) ?_
        refine fr_lald C w 4 rfl (vi_ctr hk16 hkl16 (by omega) (by decide)) dX0_pressAbove_29 ?_
        refine lv_aload_n hx hb dX0_pressAbove_30 rfl (lv_at hl 0 rfl) ?_
        refine lv_iload_n hx hb dX0_pressAbove_31 rfl (lv_at hl 1 rfl) ?_
        refine lv_iload hx hb dX0_pressAbove_32 (lv_at hl 3 rfl) ?_
        refine fr_callLV (As := [.int q1, .int i2]) (rest := [.long (xpt (Int32.toNatClampNeg i2)), .long i1]) C w kf_X0_fromBase mw_18_19 (c_X0_fromBase l D cI cJ af afp afm afs aft afq xfs xba xbe xpr xmx xsd xpt xfa xfb q1 i2) ⟨Nat.le_of_ble_eq_true rfl, Nat.le_of_ble_eq_true rfl⟩ ⟨Nat.le_refl 0, Nat.le_refl 0⟩ [0, 1, 2, 3, 4, 5] rfl rfl rfl (ws' := [(af, .inr (0, [.ref afp, .ref afm, .ref afs, .ref aft, .ref afq, .int xfs, .int xba, .long xbe])), (afp, .inl (cJ, 25, .inr (.inl xpr))), (afm, .inl (cJ, 9, .inr (.inl xmx))), (afs, .inl (cJ, 3, .inr (.inl xsd))), (aft, .inl (cJ, 4, .inr (.inl xpt))), (afq, .inr (1, [.long xfa, .long xfb]))]) rfl rfl rfl rfl hl.1 rfl (Nat.le_of_ble_eq_true rfl) dX0_pressAbove_34 (fun H locs w => ?_)
        refine lv_lmul hx hb dX0_pressAbove_37 ?_
        refine lv_ladd hx hb dX0_pressAbove_38 ?_
        refine lv_lstore_n (lv' := [(2, .long (i1 + ((xpt (Int32.toNatClampNeg i2)) * (f_X0_fromBase xba xpr q1 i2)))), (0, .ref af), (1, .int q1), (4, .int i2)]) hx hb dX0_pressAbove_39 rfl hl (by decide) rfl (fun ls hl => ?_)
        refine lv_iinc (v := i2 + 1) (lv' := [(4, .int (i2 + 1)), (2, .long (i1 + ((xpt (Int32.toNatClampNeg i2)) * (f_X0_fromBase xba xpr q1 i2)))), (0, .ref af), (1, .int q1)]) hx hb dX0_pressAbove_40 hl (k := 3) rfl rfl (by decide) rfl (fun ls hl => ?_)
        refine lv_goto (tgt := 16) hx hb dX0_pressAbove_43 (by decide) ?_
        exact ih16 (k16 + 1) (i1 + ((xpt (Int32.toNatClampNeg i2)) * (f_X0_fromBase xba xpr q1 i2))) (i2 + 1) (by rw [hk16]; exact nI_1 k16) (by omega) (by omega) hr H locs w ls (lv_sub hl [2, 3, 1, 0] rfl)
  exact LP16 5 0 ((-xbe) * (f_X0_fromBase xba xpr q1 4)) 0 (by decide) (by omega) (by omega) hy16.symm H locs w ls (lv_sub hl [2, 3, 1, 0] rfl)
def L_X0_mixedAbove_5 (xpt : Nat → Int64) (xhd : Nat → Int32) (q1 : Int32) : Nat → Int64 → Int32 → Int64 × Int32
  | 0, _, _ => (0, 0)
  | n5 + 1, i1, i2 => (if 4 ≤ i2 then (i1, i2) else L_X0_mixedAbove_5 xpt xhd q1 n5 (i1 + ((xpt (Int32.toNatClampNeg i2)) * (Int32.toInt64 (f_X2_heldOf xhd i2 q1)))) (i2 + 1))
def f_X0_mixedAbove (xpt : Nat → Int64) (xhd : Nat → Int32) (q1 : Int32) : Int64 := ((fun (y5 : Int64 × Int32) => y5.1) (L_X0_mixedAbove_5 xpt xhd q1 5 0 0))
set_option maxRecDepth 100000 in
set_option maxHeartbeats 4000000 in
theorem c_X0_mixedAbove (l : Launch) (D : va_G) (cI cJ : ClassId) (af afp afm afs aft afq au auh auw : Nat) (xfs : Int32) (xba : Int32) (xbe : Int64) (xpr : Nat → Int64) (xmx : Nat → Int64) (xsd : Nat → Int64) (xpt : Nat → Int64) (xfa : Int64) (xfb : Int64) (xsc : Int32) (xtc : Int32) (xhd : Nat → Int32) (xwt : Nat → Int32) (q1 : Int32) : CL l yX0_mixedAbove cX0_mixedAbove 6 2 D cI cJ [.ref af, .ref au, .int q1] [(af, .inr (0, [.ref afp, .ref afm, .ref afs, .ref aft, .ref afq, .int xfs, .int xba, .long xbe])), (afp, .inl (cJ, 25, .inr (.inl xpr))), (afm, .inl (cJ, 9, .inr (.inl xmx))), (afs, .inl (cJ, 3, .inr (.inl xsd))), (aft, .inl (cJ, 4, .inr (.inl xpt))), (afq, .inr (1, [.long xfa, .long xfb])), (au, .inr (2, [.ref auh, .ref auw, .int xsc, .int xtc])), (auh, .inl (cI, 20, .inl xhd)), (auw, .inl (cI, 4, .inl xwt))] [(af, .inr (0, [.ref afp, .ref afm, .ref afs, .ref aft, .ref afq, .int xfs, .int xba, .long xbe])), (afp, .inl (cJ, 25, .inr (.inl xpr))), (afm, .inl (cJ, 9, .inr (.inl xmx))), (afs, .inl (cJ, 3, .inr (.inl xsd))), (aft, .inl (cJ, 4, .inr (.inl xpt))), (afq, .inr (1, [.long xfa, .long xfb])), (au, .inr (2, [.ref auh, .ref auw, .int xsc, .int xtc])), (auh, .inl (cI, 20, .inl xhd)), (auw, .inl (cI, 4, .inl xwt))] (f_X0_mixedAbove xpt xhd q1) := by
  generalize hr : f_X0_mixedAbove xpt xhd q1 = r
  refine fr_entryL (by decide) rfl ?_
  intro p e s m args below meth c A Q H locs hQ C hret hlk w ls hl
  have hx := C.1
  have hb := C.2.1
  have hl : lv_has ls 6 [(0, .ref af), (1, .ref au), (2, .int q1)] := hl
  have hr : ((fun (y5 : Int64 × Int32) => y5.1) (L_X0_mixedAbove_5 xpt xhd q1 5 0 0)) = r := hr
  refine lv_lconst (v := 0) hx hb dX0_mixedAbove_0 (by decide) ?_
  refine lv_lstore_n (lv' := [(3, .long 0), (0, .ref af), (1, .ref au), (2, .int q1)]) hx hb dX0_mixedAbove_1 rfl hl (by decide) rfl (fun ls hl => ?_)
  refine lv_iconst (v := 0) hx hb dX0_mixedAbove_2 (by decide) ?_
  refine lv_istore (lv' := [(5, .int 0), (3, .long 0), (0, .ref af), (1, .ref au), (2, .int q1)]) hx hb dX0_mixedAbove_3 hl (by decide) rfl (fun ls hl => ?_)
  obtain ⟨y5, hy5⟩ : ∃ y, y = L_X0_mixedAbove_5 xpt xhd q1 5 0 0 := ⟨_, rfl⟩
  have hr : y5.1 = r := by rw [hy5]; exact hr
  have X5 : ∀ (H : Heap) (locs : List Loc), Wd D A s.heap H locs [(af, .inr (0, [.ref afp, .ref afm, .ref afs, .ref aft, .ref afq, .int xfs, .int xba, .long xbe])), (afp, .inl (cJ, 25, .inr (.inl xpr))), (afm, .inl (cJ, 9, .inr (.inl xmx))), (afs, .inl (cJ, 3, .inr (.inl xsd))), (aft, .inl (cJ, 4, .inr (.inl xpt))), (afq, .inr (1, [.long xfa, .long xfb])), (au, .inr (2, [.ref auh, .ref auw, .int xsc, .int xtc])), (auh, .inl (cI, 20, .inl xhd)), (auw, .inl (cI, 4, .inl xwt))] → ∀ (ls : Array Slot), lv_has ls 6 [(0, .ref af), (1, .ref au), (2, .int q1), (3, .long y5.1), (5, .int y5.2)] → W p l e (rl 2) s m args below meth c H locs 0 0 Q (F0 m 36 ls []) := by
    intro H locs w ls hl
    refine lv_lload_n hx hb dX0_mixedAbove_36 rfl (lv_at hl 3 rfl) ?_
    subst hr hQ
    exact fr_lret C hret hlk w rfl rfl dX0_mixedAbove_37
  have LP5 : ∀ (n5 : Nat) (k5 : Nat) (i1 : Int64) (i2 : Int32), i2 = nI k5 → k5 ≤ 4 → 4 < k5 + n5 → L_X0_mixedAbove_5 xpt xhd q1 n5 i1 i2 = y5 → ∀ (H : Heap) (locs : List Loc), Wd D A s.heap H locs [(af, .inr (0, [.ref afp, .ref afm, .ref afs, .ref aft, .ref afq, .int xfs, .int xba, .long xbe])), (afp, .inl (cJ, 25, .inr (.inl xpr))), (afm, .inl (cJ, 9, .inr (.inl xmx))), (afs, .inl (cJ, 3, .inr (.inl xsd))), (aft, .inl (cJ, 4, .inr (.inl xpt))), (afq, .inr (1, [.long xfa, .long xfb])), (au, .inr (2, [.ref auh, .ref auw, .int xsc, .int xtc])), (auh, .inl (cI, 20, .inl xhd)), (auw, .inl (cI, 4, .inl xwt))] → ∀ (ls : Array Slot), lv_has ls 6 [(0, .ref af), (1, .ref au), (2, .int q1), (3, .long i1), (5, .int i2)] → W p l e (rl 2) s m args below meth c H locs 0 0 Q (F0 m 5 ls []) := by
    clear hr
    intro n5
    induction n5 with
    | zero => intro k5 i1 i2 hk5 hkN5 hn5; exact absurd hn5 (by omega)
    | succ n5 ih5 =>
      intro k5 i1 i2 hk5 hkN5 hn5 hr H locs w ls hl
      have hr : (if 4 ≤ i2 then (i1, i2) else L_X0_mixedAbove_5 xpt xhd q1 n5 (i1 + ((xpt (Int32.toNatClampNeg i2)) * (Int32.toInt64 (f_X2_heldOf xhd i2 q1)))) (i2 + 1)) = y5 := hr
      refine lv_iload hx hb dX0_mixedAbove_5 (lv_at hl 4 rfl) ?_
      refine lv_iconst (v := 4) hx hb dX0_mixedAbove_7 (by decide) ?_
      refine lv_icmp_ge (tgt := 36) hx hb dX0_mixedAbove_8 (by decide) (fun c8_3 => ?_) (fun c8_3 => ?_)
      · have hr := (if_pos c8_3).symm.trans hr
        subst hr
        exact X5 H locs w ls (lv_sub hl [0, 1, 2, 3, 4] rfl)
      · have hr := (if_neg c8_3).symm.trans hr
        have hkl5 := kl_of hk5 hkN5 (N := 4) (by decide) (by omega) c8_3
        refine lv_lload_n hx hb dX0_mixedAbove_11 rfl (lv_at hl 3 rfl) ?_
        refine lv_aload_n hx hb dX0_mixedAbove_12 rfl (lv_at hl 0 rfl) ?_
        refine fr_get C w fg_X0_21 0 rfl rfl dX0_mixedAbove_13 ?_
        refine lv_iload hx hb dX0_mixedAbove_16 (lv_at hl 4 rfl) ?_
        refine fr_lald C w 4 rfl (vi_ctr hk5 hkl5 (by omega) (by decide)) dX0_mixedAbove_18 ?_
        refine lv_aload_n hx hb dX0_mixedAbove_19 rfl (lv_at hl 1 rfl) ?_
        refine lv_iload hx hb dX0_mixedAbove_20 (lv_at hl 4 rfl) ?_
        refine lv_iload_n hx hb dX0_mixedAbove_22 rfl (lv_at hl 2 rfl) ?_
        refine fr_callIV (As := [.int i2, .int q1]) (rest := [.long (xpt (Int32.toNatClampNeg i2)), .long i1]) C w kf_X2_heldOf mw_27_11 (c_X2_heldOf l D cI cJ au auh auw xsc xtc xhd xwt i2 q1) ⟨Nat.le_of_ble_eq_true rfl, Nat.le_of_ble_eq_true rfl⟩ ⟨Nat.le_refl 0, Nat.le_refl 0⟩ [6, 7, 8] rfl rfl rfl (ws' := [(af, .inr (0, [.ref afp, .ref afm, .ref afs, .ref aft, .ref afq, .int xfs, .int xba, .long xbe])), (afp, .inl (cJ, 25, .inr (.inl xpr))), (afm, .inl (cJ, 9, .inr (.inl xmx))), (afs, .inl (cJ, 3, .inr (.inl xsd))), (aft, .inl (cJ, 4, .inr (.inl xpt))), (afq, .inr (1, [.long xfa, .long xfb])), (au, .inr (2, [.ref auh, .ref auw, .int xsc, .int xtc])), (auh, .inl (cI, 20, .inl xhd)), (auw, .inl (cI, 4, .inl xwt))]) rfl rfl rfl rfl hl.1 rfl (Nat.le_of_ble_eq_true rfl) dX0_mixedAbove_23 (fun H locs w => ?_)
        refine lv_i2l (v := (Int32.toInt64 (f_X2_heldOf xhd i2 q1))) hx hb dX0_mixedAbove_26 rfl ?_
        refine lv_lmul hx hb dX0_mixedAbove_27 ?_
        refine lv_ladd hx hb dX0_mixedAbove_28 ?_
        refine lv_lstore_n (lv' := [(3, .long (i1 + ((xpt (Int32.toNatClampNeg i2)) * (Int32.toInt64 (f_X2_heldOf xhd i2 q1))))), (0, .ref af), (1, .ref au), (2, .int q1), (5, .int i2)]) hx hb dX0_mixedAbove_29 rfl hl (by decide) rfl (fun ls hl => ?_)
        refine lv_iinc (v := i2 + 1) (lv' := [(5, .int (i2 + 1)), (3, .long (i1 + ((xpt (Int32.toNatClampNeg i2)) * (Int32.toInt64 (f_X2_heldOf xhd i2 q1))))), (0, .ref af), (1, .ref au), (2, .int q1)]) hx hb dX0_mixedAbove_30 hl (k := 4) rfl rfl (by decide) rfl (fun ls hl => ?_)
        refine lv_goto (tgt := 5) hx hb dX0_mixedAbove_33 (by decide) ?_
        exact ih5 (k5 + 1) (i1 + ((xpt (Int32.toNatClampNeg i2)) * (Int32.toInt64 (f_X2_heldOf xhd i2 q1)))) (i2 + 1) (by rw [hk5]; exact nI_1 k5) (by omega) (by omega) hr H locs w ls (lv_sub hl [2, 3, 4, 1, 0] rfl)
  exact LP5 5 0 0 0 (by decide) (by omega) (by omega) hy5.symm H locs w ls (lv_sub hl [2, 3, 4, 1, 0] rfl)
