theorem mw_17_16 : Cond.methodLink RX0 31 yX2_product ∈ wsL_law := ck_17 _ (List.mem_of_getElem? (i := 16) rfl)
theorem mw_17_19 : Cond.code yX2_product cX2_product 7 (some .long) ∈ wsL_law := ck_17 _ (List.mem_of_getElem? (i := 19) rfl)
theorem mw_17_17 : Cond.instanceMethod yX2_product ∈ wsL_law := ck_17 _ (List.mem_of_getElem? (i := 17) rfl)
theorem mw_17_18 : Cond.selects RX2 yX2_product yX2_product ∈ wsL_law := ck_17 _ (List.mem_of_getElem? (i := 18) rfl)
theorem mw_18_15 : Cond.methodLink RX0 85 yX0_otherAt ∈ wsL_law := ck_18 _ (List.mem_of_getElem? (i := 15) rfl)
theorem mw_18_18 : Cond.code yX0_otherAt cX0_otherAt 2 (some .int) ∈ wsL_law := ck_18 _ (List.mem_of_getElem? (i := 18) rfl)
theorem mw_18_16 : Cond.instanceMethod yX0_otherAt ∈ wsL_law := ck_18 _ (List.mem_of_getElem? (i := 16) rfl)
theorem mw_18_17 : Cond.selects RX0 yX0_otherAt yX0_otherAt ∈ wsL_law := ck_18 _ (List.mem_of_getElem? (i := 17) rfl)
theorem mw_3_18 : Cond.fieldLink RX0 18 "MudShares$Fit" "side" "[J" ∈ wsL_law := ck_3 _ (List.mem_of_getElem? (i := 18) rfl)
theorem mw_19_19 : Cond.methodLink RX0 91 yX0_putPart ∈ wsL_law := ck_19 _ (List.mem_of_getElem? (i := 19) rfl)
theorem mw_19_22 : Cond.code yX0_putPart cX0_putPart 4 none ∈ wsL_law := ck_19 _ (List.mem_of_getElem? (i := 22) rfl)
theorem mw_19_20 : Cond.instanceMethod yX0_putPart ∈ wsL_law := ck_19 _ (List.mem_of_getElem? (i := 20) rfl)
theorem mw_19_21 : Cond.selects RX0 yX0_putPart yX0_putPart ∈ wsL_law := ck_19 _ (List.mem_of_getElem? (i := 21) rfl)
theorem mw_20_3 : Cond.methodLink RX0 95 yX0_partOf ∈ wsL_law := ck_20 _ (List.mem_of_getElem? (i := 3) rfl)
theorem mw_20_6 : Cond.code yX0_partOf cX0_partOf 2 (some .long) ∈ wsL_law := ck_20 _ (List.mem_of_getElem? (i := 6) rfl)
theorem mw_20_4 : Cond.instanceMethod yX0_partOf ∈ wsL_law := ck_20 _ (List.mem_of_getElem? (i := 4) rfl)
theorem mw_20_5 : Cond.selects RX0 yX0_partOf yX0_partOf ∈ wsL_law := ck_20 _ (List.mem_of_getElem? (i := 5) rfl)
theorem mw_18_8 : Cond.methodLink RX0 41 yX0_firstOf ∈ wsL_law := ck_18 _ (List.mem_of_getElem? (i := 8) rfl)
theorem mw_18_10 : Cond.code yX0_firstOf cX0_firstOf 2 (some .int) ∈ wsL_law := ck_18 _ (List.mem_of_getElem? (i := 10) rfl)
theorem mw_18_9 : Cond.static yX0_firstOf ∈ wsL_law := ck_18 _ (List.mem_of_getElem? (i := 9) rfl)
theorem mw_18_11 : Cond.methodLink RX0 48 yX0_writeEquations ∈ wsL_law := ck_18 _ (List.mem_of_getElem? (i := 11) rfl)
theorem mw_18_14 : Cond.code yX0_writeEquations cX0_writeEquations 7 none ∈ wsL_law := ck_18 _ (List.mem_of_getElem? (i := 14) rfl)
theorem mw_18_12 : Cond.instanceMethod yX0_writeEquations ∈ wsL_law := ck_18 _ (List.mem_of_getElem? (i := 12) rfl)
theorem mw_18_13 : Cond.selects RX0 yX0_writeEquations yX0_writeEquations ∈ wsL_law := ck_18 _ (List.mem_of_getElem? (i := 13) rfl)
theorem mw_19_3 : Cond.methodLink RX0 51 yX0_determinant ∈ wsL_law := ck_19 _ (List.mem_of_getElem? (i := 3) rfl)
theorem mw_19_6 : Cond.code yX0_determinant cX0_determinant 4 (some .long) ∈ wsL_law := ck_19 _ (List.mem_of_getElem? (i := 6) rfl)
theorem mw_19_4 : Cond.instanceMethod yX0_determinant ∈ wsL_law := ck_19 _ (List.mem_of_getElem? (i := 4) rfl)
theorem mw_19_5 : Cond.selects RX0 yX0_determinant yX0_determinant ∈ wsL_law := ck_19 _ (List.mem_of_getElem? (i := 5) rfl)
theorem mw_19_15 : Cond.methodLink RX0 59 yX0_solveParts ∈ wsL_law := ck_19 _ (List.mem_of_getElem? (i := 15) rfl)
theorem mw_19_18 : Cond.code yX0_solveParts cX0_solveParts 7 none ∈ wsL_law := ck_19 _ (List.mem_of_getElem? (i := 18) rfl)
theorem mw_19_16 : Cond.instanceMethod yX0_solveParts ∈ wsL_law := ck_19 _ (List.mem_of_getElem? (i := 16) rfl)
theorem mw_19_17 : Cond.selects RX0 yX0_solveParts yX0_solveParts ∈ wsL_law := ck_19 _ (List.mem_of_getElem? (i := 17) rfl)
theorem mw_3_21 : Cond.fieldLink RX0 27 "MudShares$Fit" "misfit" "LMudShares$Fraction;" ∈ wsL_law := ck_3 _ (List.mem_of_getElem? (i := 21) rfl)
theorem mw_19_23 : Cond.methodLink RX0 62 yX0_misfitAbove ∈ wsL_law := ck_19 _ (List.mem_of_getElem? (i := 23) rfl)
theorem mw_20_2 : Cond.code yX0_misfitAbove cX0_misfitAbove 4 (some .long) ∈ wsL_law := ck_20 _ (List.mem_of_getElem? (i := 2) rfl)
theorem mw_20_0 : Cond.instanceMethod yX0_misfitAbove ∈ wsL_law := ck_20 _ (List.mem_of_getElem? (i := 0) rfl)
theorem mw_20_1 : Cond.selects RX0 yX0_misfitAbove yX0_misfitAbove ∈ wsL_law := ck_20 _ (List.mem_of_getElem? (i := 1) rfl)
theorem mw_20_7 : Cond.methodLink RX0 65 yX1_put ∈ wsL_law := ck_20 _ (List.mem_of_getElem? (i := 7) rfl)
theorem mw_20_10 : Cond.code yX1_put cX1_put 7 none ∈ wsL_law := ck_20 _ (List.mem_of_getElem? (i := 10) rfl)
theorem mw_20_8 : Cond.instanceMethod yX1_put ∈ wsL_law := ck_20 _ (List.mem_of_getElem? (i := 8) rfl)
theorem mw_20_9 : Cond.selects RX1 yX1_put yX1_put ∈ wsL_law := ck_20 _ (List.mem_of_getElem? (i := 9) rfl)
theorem fg_X0_18 : FG RX0 18 0 2 := ⟨RX0, TX0, 8, rfl, by decide, inlX0, mw_3_18⟩
theorem fp_X0_37 : FP RX0 37 0 5 .int := ⟨RX0, TX0, 8, tyX0, rfl, by decide, inlX0, mw_18_5, tyX0_ok, nmX0, rfl, by decide +kernel⟩
theorem fp_X0_45 : FP RX0 45 0 6 .int := ⟨RX0, TX0, 8, tyX0, rfl, by decide, inlX0, mw_18_6, tyX0_ok, nmX0, rfl, by decide +kernel⟩
theorem fp_X0_55 : FP RX0 55 0 7 .long := ⟨RX0, TX0, 8, tyX0, rfl, by decide, inlX0, mw_18_7, tyX0_ok, nmX0, rfl, by decide +kernel⟩
theorem fg_X0_27 : FG RX0 27 0 4 := ⟨RX0, TX0, 8, rfl, by decide, inlX0, mw_3_21⟩
theorem kf_X2_product : KV RX2 yX2_product cX2_product 7 (some .long) 3 := ⟨mw_17_19, mw_17_17, mw_17_18, mw_1_22, by decide, by decide, by decide +kernel⟩
theorem kf_X0_otherAt : KV RX0 yX0_otherAt cX0_otherAt 2 (some .int) 1 := ⟨mw_18_18, mw_18_16, mw_18_17, mw_3_7, by decide, by decide, by decide +kernel⟩
theorem kf_X0_putPart : KV RX0 yX0_putPart cX0_putPart 4 none 2 := ⟨mw_19_22, mw_19_20, mw_19_21, mw_3_7, by decide, by decide, by decide +kernel⟩
theorem kf_X0_partOf : KV RX0 yX0_partOf cX0_partOf 2 (some .long) 1 := ⟨mw_20_6, mw_20_4, mw_20_5, mw_3_7, by decide, by decide, by decide +kernel⟩
theorem kf_X0_firstOf : KS yX0_firstOf cX0_firstOf 2 (some .int) 1 := ⟨mw_18_10, mw_18_9, mw_3_7, by decide, by decide, by decide +kernel⟩
theorem kf_X0_writeEquations : KV RX0 yX0_writeEquations cX0_writeEquations 7 none 0 := ⟨mw_18_14, mw_18_12, mw_18_13, mw_3_7, by decide, by decide, by decide +kernel⟩
theorem kf_X0_determinant : KV RX0 yX0_determinant cX0_determinant 4 (some .long) 0 := ⟨mw_19_6, mw_19_4, mw_19_5, mw_3_7, by decide, by decide, by decide +kernel⟩
theorem kf_X0_solveParts : KV RX0 yX0_solveParts cX0_solveParts 7 none 0 := ⟨mw_19_18, mw_19_16, mw_19_17, mw_3_7, by decide, by decide, by decide +kernel⟩
theorem kf_X0_misfitAbove : KV RX0 yX0_misfitAbove cX0_misfitAbove 4 (some .long) 0 := ⟨mw_20_2, mw_20_0, mw_20_1, mw_3_7, by decide, by decide, by decide +kernel⟩
theorem kf_X1_put : KV RX1 yX1_put cX1_put 7 none 2 := ⟨mw_20_10, mw_20_8, mw_20_9, mw_2_6, by decide, by decide, by decide +kernel⟩
def L_X0_weigh_10 (xhd : Nat → Int32) (xwt : Nat → Int32) (us : Int32) (i1 : Int32) : Nat → Int32 → (Nat → Int64) → Int32 × (Nat → Int64)
  | 0, _, _ => (0, fun _ => 0)
  | n10 + 1, i4, w5 => (if 5 ≤ i4 then (i4, w5) else L_X0_weigh_10 xhd xwt us i1 n10 (i4 + 1) (vp_updL w5 (Int32.toNatClampNeg ((i1 * 5) + i4)) (f_X2_product xhd xwt i1 i4 us)))
def L_X0_weigh_2 (xhd : Nat → Int32) (xwt : Nat → Int32) (us : Int32) : Nat → Int32 → (Nat → Int64) → Int32 × (Nat → Int64)
  | 0, _, _ => (0, fun _ => 0)
  | n2 + 1, i1, w2 => (if 5 ≤ i1 then (i1, w2) else ((fun (y10 : Int32 × (Nat → Int64)) => L_X0_weigh_2 xhd xwt us n2 (i1 + 1) y10.2) (L_X0_weigh_10 xhd xwt us i1 6 0 w2)))
def f_X0_weigh (xpr : Nat → Int64) (xhd : Nat → Int32) (xwt : Nat → Int32) (us : Int32) : (Nat → Int64) := ((fun (y2 : Int32 × (Nat → Int64)) => y2.2) (L_X0_weigh_2 xhd xwt us 6 0 xpr))
set_option maxRecDepth 100000 in
set_option maxHeartbeats 4000000 in
theorem c_X0_weigh (l : Launch) (D : va_G) (cI cJ : ClassId) (af afp afm afs aft afq au auh auw : Nat) (xfs : Int32) (xba : Int32) (xbe : Int64) (xpr : Nat → Int64) (xmx : Nat → Int64) (xsd : Nat → Int64) (xpt : Nat → Int64) (xfa : Int64) (xfb : Int64) (xsc : Int32) (xtc : Int32) (xhd : Nat → Int32) (xwt : Nat → Int32) (us : Int32) : CV l yX0_weigh cX0_weigh 5 3 D cI cJ [.ref af, .ref au, .int us] [(af, .inr (0, [.ref afp, .ref afm, .ref afs, .ref aft, .ref afq, .int xfs, .int xba, .long xbe])), (afp, .inl (cJ, 25, .inr (.inl xpr))), (afm, .inl (cJ, 9, .inr (.inl xmx))), (afs, .inl (cJ, 3, .inr (.inl xsd))), (aft, .inl (cJ, 4, .inr (.inl xpt))), (afq, .inr (1, [.long xfa, .long xfb])), (au, .inr (2, [.ref auh, .ref auw, .int xsc, .int xtc])), (auh, .inl (cI, 20, .inl xhd)), (auw, .inl (cI, 4, .inl xwt))] [(af, .inr (0, [.ref afp, .ref afm, .ref afs, .ref aft, .ref afq, .int xfs, .int xba, .long xbe])), (afp, .inl (cJ, 25, .inr (.inl (f_X0_weigh xpr xhd xwt us)))), (afm, .inl (cJ, 9, .inr (.inl xmx))), (afs, .inl (cJ, 3, .inr (.inl xsd))), (aft, .inl (cJ, 4, .inr (.inl xpt))), (afq, .inr (1, [.long xfa, .long xfb])), (au, .inr (2, [.ref auh, .ref auw, .int xsc, .int xtc])), (auh, .inl (cI, 20, .inl xhd)), (auw, .inl (cI, 4, .inl xwt))] := by
  generalize hr : f_X0_weigh xpr xhd xwt us = r
  refine fr_entryV (by decide) rfl ?_
  intro p e s m args below meth c A Q H locs hQ C hret hlk w ls hl
  have hx := C.1
  have hb := C.2.1
  have hl : lv_has ls 5 [(0, .ref af), (1, .ref au), (2, .int us)] := hl
  have hr : ((fun (y2 : Int32 × (Nat → Int64)) => y2.2) (L_X0_weigh_2 xhd xwt us 6 0 xpr)) = r := hr
  refine lv_iconst (v := 0) hx hb dX0_weigh_0 (by decide) ?_
  refine lv_istore_n (lv' := [(3, .int 0), (0, .ref af), (1, .ref au), (2, .int us)]) hx hb dX0_weigh_1 rfl hl (by decide) rfl (fun ls hl => ?_)
  obtain ⟨y2, hy2⟩ : ∃ y, y = L_X0_weigh_2 xhd xwt us 6 0 xpr := ⟨_, rfl⟩
  have hr : y2.2 = r := by rw [hy2]; exact hr
  have X2 : ∀ (H : Heap) (locs : List Loc), Wd D A s.heap H locs [(af, .inr (0, [.ref afp, .ref afm, .ref afs, .ref aft, .ref afq, .int xfs, .int xba, .long xbe])), (afp, .inl (cJ, 25, .inr (.inl y2.2))), (afm, .inl (cJ, 9, .inr (.inl xmx))), (afs, .inl (cJ, 3, .inr (.inl xsd))), (aft, .inl (cJ, 4, .inr (.inl xpt))), (afq, .inr (1, [.long xfa, .long xfb])), (au, .inr (2, [.ref auh, .ref auw, .int xsc, .int xtc])), (auh, .inl (cI, 20, .inl xhd)), (auw, .inl (cI, 4, .inl xwt))] → ∀ (ls : Array Slot), lv_has ls 5 [(0, .ref af), (1, .ref au), (2, .int us), (3, .int y2.1)] → W p l e (rl 3) s m args below meth c H locs 0 0 Q (F0 m 47 ls []) := by
    intro H locs w ls hl
    subst hr hQ
    exact fr_vret C hret hlk w rfl dX0_weigh_47
  have LP2 : ∀ (n2 : Nat) (k2 : Nat) (i1 : Int32) (w2 : Nat → Int64), i1 = nI k2 → k2 ≤ 5 → 5 < k2 + n2 → L_X0_weigh_2 xhd xwt us n2 i1 w2 = y2 → ∀ (H : Heap) (locs : List Loc), Wd D A s.heap H locs [(af, .inr (0, [.ref afp, .ref afm, .ref afs, .ref aft, .ref afq, .int xfs, .int xba, .long xbe])), (afp, .inl (cJ, 25, .inr (.inl w2))), (afm, .inl (cJ, 9, .inr (.inl xmx))), (afs, .inl (cJ, 3, .inr (.inl xsd))), (aft, .inl (cJ, 4, .inr (.inl xpt))), (afq, .inr (1, [.long xfa, .long xfb])), (au, .inr (2, [.ref auh, .ref auw, .int xsc, .int xtc])), (auh, .inl (cI, 20, .inl xhd)), (auw, .inl (cI, 4, .inl xwt))] → ∀ (ls : Array Slot), lv_has ls 5 [(0, .ref af), (1, .ref au), (2, .int us), (3, .int i1)] → W p l e (rl 3) s m args below meth c H locs 0 0 Q (F0 m 2 ls []) := by
    clear hr
    intro n2
    induction n2 with
    | zero => intro k2 i1 w2 hk2 hkN2 hn2; exact absurd hn2 (by omega)
    | succ n2 ih2 =>
      intro k2 i1 w2 hk2 hkN2 hn2 hr H locs w ls hl
      have hr : (if 5 ≤ i1 then (i1, w2) else ((fun (y10 : Int32 × (Nat → Int64)) => L_X0_weigh_2 xhd xwt us n2 (i1 + 1) y10.2) (L_X0_weigh_10 xhd xwt us i1 6 0 w2))) = y2 := hr
      refine lv_iload_n hx hb dX0_weigh_2 rfl (lv_at hl 3 rfl) ?_
      refine lv_iconst (v := 5) hx hb dX0_weigh_3 (by decide) ?_
      refine lv_icmp_ge (tgt := 47) hx hb dX0_weigh_4 (by decide) (fun c4_3 => ?_) (fun c4_3 => ?_)
      · have hr := (if_pos c4_3).symm.trans hr
        subst hr
        exact X2 H locs w ls (lv_sub hl [0, 1, 2, 3] rfl)
      · have hr := (if_neg c4_3).symm.trans hr
        have hkl2 := kl_of hk2 hkN2 (N := 5) (by decide) (by omega) c4_3
        refine lv_iconst (v := 0) hx hb dX0_weigh_7 (by decide) ?_
        refine lv_istore (lv' := [(4, .int 0), (0, .ref af), (1, .ref au), (2, .int us), (3, .int i1)]) hx hb dX0_weigh_8 hl (by decide) rfl (fun ls hl => ?_)
        obtain ⟨y10, hy10⟩ : ∃ y, y = L_X0_weigh_10 xhd xwt us i1 6 0 w2 := ⟨_, rfl⟩
        have hr : L_X0_weigh_2 xhd xwt us n2 (i1 + 1) y10.2 = y2 := by rw [hy10]; exact hr
        have X10 : ∀ (H : Heap) (locs : List Loc), Wd D A s.heap H locs [(af, .inr (0, [.ref afp, .ref afm, .ref afs, .ref aft, .ref afq, .int xfs, .int xba, .long xbe])), (afp, .inl (cJ, 25, .inr (.inl y10.2))), (afm, .inl (cJ, 9, .inr (.inl xmx))), (afs, .inl (cJ, 3, .inr (.inl xsd))), (aft, .inl (cJ, 4, .inr (.inl xpt))), (afq, .inr (1, [.long xfa, .long xfb])), (au, .inr (2, [.ref auh, .ref auw, .int xsc, .int xtc])), (auh, .inl (cI, 20, .inl xhd)), (auw, .inl (cI, 4, .inl xwt))] → ∀ (ls : Array Slot), lv_has ls 5 [(0, .ref af), (1, .ref au), (2, .int us), (3, .int i1), (4, .int y10.1)] → W p l e (rl 3) s m args below meth c H locs 0 0 Q (F0 m 41 ls []) := by
          intro H locs w ls hl
          refine lv_iinc (v := i1 + 1) (lv' := [(3, .int (i1 + 1)), (0, .ref af), (1, .ref au), (2, .int us), (4, .int y10.1)]) hx hb dX0_weigh_41 hl (k := 3) rfl rfl (by decide) rfl (fun ls hl => ?_)
          refine lv_goto (tgt := 2) hx hb dX0_weigh_44 (by decide) ?_
          exact ih2 (k2 + 1) (i1 + 1) y10.2 (by rw [hk2]; exact nI_1 k2) (by omega) (by omega) hr H locs w ls (lv_sub hl [1, 2, 3, 0] rfl)
        have LP10 : ∀ (n10 : Nat) (k10 : Nat) (i4 : Int32) (w5 : Nat → Int64), i4 = nI k10 → k10 ≤ 5 → 5 < k10 + n10 → L_X0_weigh_10 xhd xwt us i1 n10 i4 w5 = y10 → ∀ (H : Heap) (locs : List Loc), Wd D A s.heap H locs [(af, .inr (0, [.ref afp, .ref afm, .ref afs, .ref aft, .ref afq, .int xfs, .int xba, .long xbe])), (afp, .inl (cJ, 25, .inr (.inl w5))), (afm, .inl (cJ, 9, .inr (.inl xmx))), (afs, .inl (cJ, 3, .inr (.inl xsd))), (aft, .inl (cJ, 4, .inr (.inl xpt))), (afq, .inr (1, [.long xfa, .long xfb])), (au, .inr (2, [.ref auh, .ref auw, .int xsc, .int xtc])), (auh, .inl (cI, 20, .inl xhd)), (auw, .inl (cI, 4, .inl xwt))] → ∀ (ls : Array Slot), lv_has ls 5 [(0, .ref af), (1, .ref au), (2, .int us), (3, .int i1), (4, .int i4)] → W p l e (rl 3) s m args below meth c H locs 0 0 Q (F0 m 10 ls []) := by
          clear hr
          intro n10
          induction n10 with
          | zero => intro k10 i4 w5 hk10 hkN10 hn10; exact absurd hn10 (by omega)
          | succ n10 ih10 =>
            intro k10 i4 w5 hk10 hkN10 hn10 hr H locs w ls hl
            have hr : (if 5 ≤ i4 then (i4, w5) else L_X0_weigh_10 xhd xwt us i1 n10 (i4 + 1) (vp_updL w5 (Int32.toNatClampNeg ((i1 * 5) + i4)) (f_X2_product xhd xwt i1 i4 us))) = y10 := hr
            refine lv_iload hx hb dX0_weigh_10 (lv_at hl 4 rfl) ?_
            refine lv_iconst (v := 5) hx hb dX0_weigh_12 (by decide) ?_
            refine lv_icmp_ge (tgt := 41) hx hb dX0_weigh_13 (by decide) (fun c13_6 => ?_) (fun c13_6 => ?_)
            · have hr := (if_pos c13_6).symm.trans hr
              subst hr
              exact X10 H locs w ls (lv_sub hl [0, 1, 2, 3, 4] rfl)
            · have hr := (if_neg c13_6).symm.trans hr
              have hkl10 := kl_of hk10 hkN10 (N := 5) (by decide) (by omega) c13_6
              refine lv_aload_n hx hb dX0_weigh_16 rfl (lv_at hl 0 rfl) ?_
              refine fr_get C w fg_X0_9 0 rfl rfl dX0_weigh_17 ?_
              refine lv_iload_n hx hb dX0_weigh_20 rfl (lv_at hl 3 rfl) ?_
              refine lv_iconst (v := 5) hx hb dX0_weigh_21 (by decide) ?_
              refine lv_imul hx hb dX0_weigh_22 ?_
              refine lv_iload hx hb dX0_weigh_23 (lv_at hl 4 rfl) ?_
              refine lv_iadd hx hb dX0_weigh_25 ?_
              refine lv_aload_n hx hb dX0_weigh_26 rfl (lv_at hl 1 rfl) ?_
              refine lv_iload_n hx hb dX0_weigh_27 rfl (lv_at hl 3 rfl) ?_
              refine lv_iload hx hb dX0_weigh_28 (lv_at hl 4 rfl) ?_
              refine lv_iload_n hx hb dX0_weigh_30 rfl (lv_at hl 2 rfl) ?_
              refine fr_callLV (As := [.int i1, .int i4, .int us]) (rest := [.int ((i1 * 5) + i4), .ref afp]) C w kf_X2_product mw_17_16 (c_X2_product l D cI cJ au auh auw xsc xtc xhd xwt i1 i4 us) ⟨Nat.le_of_ble_eq_true rfl, Nat.le_of_ble_eq_true rfl⟩ ⟨Nat.le_refl 0, Nat.le_refl 0⟩ [6, 7, 8] rfl rfl rfl (ws' := [(af, .inr (0, [.ref afp, .ref afm, .ref afs, .ref aft, .ref afq, .int xfs, .int xba, .long xbe])), (afp, .inl (cJ, 25, .inr (.inl w5))), (afm, .inl (cJ, 9, .inr (.inl xmx))), (afs, .inl (cJ, 3, .inr (.inl xsd))), (aft, .inl (cJ, 4, .inr (.inl xpt))), (afq, .inr (1, [.long xfa, .long xfb])), (au, .inr (2, [.ref auh, .ref auw, .int xsc, .int xtc])), (auh, .inl (cI, 20, .inl xhd)), (auw, .inl (cI, 4, .inl xwt))]) rfl rfl rfl rfl hl.1 rfl (Nat.le_of_ble_eq_true rfl) dX0_weigh_31 (fun H locs w => ?_)
              refine fr_last C w 1 rfl (vi_lin hk2 hk10 (cn := 5) (by decide) (by omega) (by decide)) (ws' := [(af, .inr (0, [.ref afp, .ref afm, .ref afs, .ref aft, .ref afq, .int xfs, .int xba, .long xbe])), (afp, .inl (cJ, 25, .inr (.inl (vp_updL w5 (Int32.toNatClampNeg ((i1 * 5) + i4)) (f_X2_product xhd xwt i1 i4 us))))), (afm, .inl (cJ, 9, .inr (.inl xmx))), (afs, .inl (cJ, 3, .inr (.inl xsd))), (aft, .inl (cJ, 4, .inr (.inl xpt))), (afq, .inr (1, [.long xfa, .long xfb])), (au, .inr (2, [.ref auh, .ref auw, .int xsc, .int xtc])), (auh, .inl (cI, 20, .inl xhd)), (auw, .inl (cI, 4, .inl xwt))]) rfl dX0_weigh_34 (fun H locs w => ?_)
              refine lv_iinc (v := i4 + 1) (lv' := [(4, .int (i4 + 1)), (0, .ref af), (1, .ref au), (2, .int us), (3, .int i1)]) hx hb dX0_weigh_35 hl (k := 4) rfl rfl (by decide) rfl (fun ls hl => ?_)
              refine lv_goto (tgt := 10) hx hb dX0_weigh_38 (by decide) ?_
              exact ih10 (k10 + 1) (i4 + 1) (vp_updL w5 (Int32.toNatClampNeg ((i1 * 5) + i4)) (f_X2_product xhd xwt i1 i4 us)) (by rw [hk10]; exact nI_1 k10) (by omega) (by omega) hr H locs w ls (lv_sub hl [1, 2, 3, 4, 0] rfl)
        exact LP10 6 0 0 w2 (by decide) (by omega) (by omega) hy10.symm H locs w ls (lv_sub hl [1, 2, 3, 4, 0] rfl)
  exact LP2 6 0 0 xpr (by decide) (by omega) (by omega) hy2.symm H locs w ls (lv_sub hl [1, 2, 3, 0] rfl)
def L_X0_writeEquations_22 (xfs : Int32) (xba : Int32) (xpr : Nat → Int64) (i1 : Int32) : Nat → Int32 → (Nat → Int64) → Int32 × (Nat → Int64)
  | 0, _, _ => (0, fun _ => 0)
  | n22 + 1, i5, w6 => (if 3 ≤ i5 then (i5, w6) else ((fun (v9 : Int64) => ((fun (v12 : Int32) => ((fun (v14 : Int64) => L_X0_writeEquations_22 xfs xba xpr i1 n22 (i5 + 1) (vp_updL w6 (Int32.toNatClampNeg ((i1 * 3) + i5)) v14)) (if v12 = 0 then v9 else (f_X0_fromBase xba xpr (f_X0_otherAt xba i1) (f_X0_otherAt xba i5))))) (if (f_X6_isIn xfs (f_X0_otherAt xba i1)) = 0 then 0 else (if (f_X6_isIn xfs (f_X0_otherAt xba i5)) = 0 then 0 else 1)))) (if i1 = i5 then 1 else 0)))
def L_X0_writeEquations_2 (xfs : Int32) (xba : Int32) (xpr : Nat → Int64) : Nat → Int32 → (Nat → Int64) → (Nat → Int64) → Int32 × (Nat → Int64) × (Nat → Int64)
  | 0, _, _, _ => (0, fun _ => 0, fun _ => 0)
  | n2 + 1, i1, w2, w3 => (if 3 ≤ i1 then (i1, w2, w3) else ((fun (y22 : Int32 × (Nat → Int64)) => ((fun (v19 : Int64) => L_X0_writeEquations_2 xfs xba xpr n2 (i1 + 1) y22.2 (vp_updL w3 (Int32.toNatClampNeg i1) v19)) (if (f_X6_isIn xfs (f_X0_otherAt xba i1)) = 0 then 0 else (f_X0_fromBase xba xpr (f_X0_otherAt xba i1) 4)))) (L_X0_writeEquations_22 xfs xba xpr i1 4 0 w2)))
def f_X0_writeEquations (xfs : Int32) (xba : Int32) (xpr : Nat → Int64) (xmx : Nat → Int64) (xsd : Nat → Int64) : (Nat → Int64) × (Nat → Int64) := ((fun (y2 : Int32 × (Nat → Int64) × (Nat → Int64)) => (y2.2.1, y2.2.2)) (L_X0_writeEquations_2 xfs xba xpr 4 0 xmx xsd))
set_option maxRecDepth 100000 in
set_option maxHeartbeats 4000000 in
theorem c_X0_writeEquations (l : Launch) (D : va_G) (cI cJ : ClassId) (af afp afm afs aft afq : Nat) (xfs : Int32) (xba : Int32) (xbe : Int64) (xpr : Nat → Int64) (xmx : Nat → Int64) (xsd : Nat → Int64) (xpt : Nat → Int64) (xfa : Int64) (xfb : Int64)  : CV l yX0_writeEquations cX0_writeEquations 7 2 D cI cJ [.ref af] [(af, .inr (0, [.ref afp, .ref afm, .ref afs, .ref aft, .ref afq, .int xfs, .int xba, .long xbe])), (afp, .inl (cJ, 25, .inr (.inl xpr))), (afm, .inl (cJ, 9, .inr (.inl xmx))), (afs, .inl (cJ, 3, .inr (.inl xsd))), (aft, .inl (cJ, 4, .inr (.inl xpt))), (afq, .inr (1, [.long xfa, .long xfb]))] [(af, .inr (0, [.ref afp, .ref afm, .ref afs, .ref aft, .ref afq, .int xfs, .int xba, .long xbe])), (afp, .inl (cJ, 25, .inr (.inl xpr))), (afm, .inl (cJ, 9, .inr (.inl ((f_X0_writeEquations xfs xba xpr xmx xsd).1)))), (afs, .inl (cJ, 3, .inr (.inl ((f_X0_writeEquations xfs xba xpr xmx xsd).2)))), (aft, .inl (cJ, 4, .inr (.inl xpt))), (afq, .inr (1, [.long xfa, .long xfb]))] := by
  generalize hr : f_X0_writeEquations xfs xba xpr xmx xsd = r
  refine fr_entryV (by decide) rfl ?_
  intro p e s m args below meth c A Q H locs hQ C hret hlk w ls hl
  have hx := C.1
  have hb := C.2.1
  have hl : lv_has ls 7 [(0, .ref af)] := hl
  have hr : ((fun (y2 : Int32 × (Nat → Int64) × (Nat → Int64)) => (y2.2.1, y2.2.2)) (L_X0_writeEquations_2 xfs xba xpr 4 0 xmx xsd)) = r := hr
  refine lv_iconst (v := 0) hx hb dX0_writeEquations_0 (by decide) ?_
  refine lv_istore_n (lv' := [(1, .int 0), (0, .ref af)]) hx hb dX0_writeEquations_1 rfl hl (by decide) rfl (fun ls hl => ?_)
  obtain ⟨y2, hy2⟩ : ∃ y, y = L_X0_writeEquations_2 xfs xba xpr 4 0 xmx xsd := ⟨_, rfl⟩
  have hr : (y2.2.1, y2.2.2) = r := by rw [hy2]; exact hr
  have X2 : ∀ (H : Heap) (locs : List Loc), Wd D A s.heap H locs [(af, .inr (0, [.ref afp, .ref afm, .ref afs, .ref aft, .ref afq, .int xfs, .int xba, .long xbe])), (afp, .inl (cJ, 25, .inr (.inl xpr))), (afm, .inl (cJ, 9, .inr (.inl y2.2.1))), (afs, .inl (cJ, 3, .inr (.inl y2.2.2))), (aft, .inl (cJ, 4, .inr (.inl xpt))), (afq, .inr (1, [.long xfa, .long xfb]))] → ∀ (ls : Array Slot), lv_has ls 7 [(0, .ref af), (1, .int y2.1)] → W p l e (rl 2) s m args below meth c H locs 0 0 Q (F0 m 135 ls []) := by
    intro H locs w ls hl
    subst hr hQ
    exact fr_vret C hret hlk w rfl dX0_writeEquations_135
  have LP2 : ∀ (n2 : Nat) (k2 : Nat) (i1 : Int32) (w2 : Nat → Int64) (w3 : Nat → Int64), i1 = nI k2 → k2 ≤ 3 → 3 < k2 + n2 → L_X0_writeEquations_2 xfs xba xpr n2 i1 w2 w3 = y2 → ∀ (H : Heap) (locs : List Loc), Wd D A s.heap H locs [(af, .inr (0, [.ref afp, .ref afm, .ref afs, .ref aft, .ref afq, .int xfs, .int xba, .long xbe])), (afp, .inl (cJ, 25, .inr (.inl xpr))), (afm, .inl (cJ, 9, .inr (.inl w2))), (afs, .inl (cJ, 3, .inr (.inl w3))), (aft, .inl (cJ, 4, .inr (.inl xpt))), (afq, .inr (1, [.long xfa, .long xfb]))] → ∀ (ls : Array Slot), lv_has ls 7 [(0, .ref af), (1, .int i1)] → W p l e (rl 2) s m args below meth c H locs 0 0 Q (F0 m 2 ls []) := by
    clear hr
    intro n2
    induction n2 with
    | zero => intro k2 i1 w2 w3 hk2 hkN2 hn2; exact absurd hn2 (by omega)
    | succ n2 ih2 =>
      intro k2 i1 w2 w3 hk2 hkN2 hn2 hr H locs w ls hl
      have hr : (if 3 ≤ i1 then (i1, w2, w3) else ((fun (y22 : Int32 × (Nat → Int64)) => ((fun (v19 : Int64) => L_X0_writeEquations_2 xfs xba xpr n2 (i1 + 1) y22.2 (vp_updL w3 (Int32.toNatClampNeg i1) v19)) (if (f_X6_isIn xfs (f_X0_otherAt xba i1)) = 0 then 0 else (f_X0_fromBase xba xpr (f_X0_otherAt xba i1) 4)))) (L_X0_writeEquations_22 xfs xba xpr i1 4 0 w2))) = y2 := hr
      refine lv_iload_n hx hb dX0_writeEquations_2 rfl (lv_at hl 1 rfl) ?_
      refine lv_iconst (v := 3) hx hb dX0_writeEquations_3 (by decide) ?_
      refine lv_icmp_ge (tgt := 135) hx hb dX0_writeEquations_4 (by decide) (fun c4_4 => ?_) (fun c4_4 => ?_)
      · have hr := (if_pos c4_4).symm.trans hr
        subst hr
        exact X2 H locs w ls (lv_sub hl [0, 1] rfl)
      · have hr := (if_neg c4_4).symm.trans hr
        have hkl2 := kl_of hk2 hkN2 (N := 3) (by decide) (by omega) c4_4
        refine lv_aload_n hx hb dX0_writeEquations_7 rfl (lv_at hl 0 rfl) ?_
        refine fr_get C w fg_X0_37 0 rfl rfl dX0_writeEquations_8 ?_
        refine lv_aload_n hx hb dX0_writeEquations_11 rfl (lv_at hl 0 rfl) ?_
        refine lv_iload_n hx hb dX0_writeEquations_12 rfl (lv_at hl 1 rfl) ?_
        refine fr_callIV (As := [.int i1]) (rest := [.int xfs]) C w kf_X0_otherAt mw_18_15 (c_X0_otherAt l D cI cJ af afp afm afs aft afq xfs xba xbe xpr w2 w3 xpt xfa xfb i1) ⟨Nat.le_of_ble_eq_true rfl, Nat.le_of_ble_eq_true rfl⟩ ⟨Nat.le_refl 0, Nat.le_refl 0⟩ [0, 1, 2, 3, 4, 5] rfl rfl rfl (ws' := [(af, .inr (0, [.ref afp, .ref afm, .ref afs, .ref aft, .ref afq, .int xfs, .int xba, .long xbe])), (afp, .inl (cJ, 25, .inr (.inl xpr))), (afm, .inl (cJ, 9, .inr (.inl w2))), (afs, .inl (cJ, 3, .inr (.inl w3))), (aft, .inl (cJ, 4, .inr (.inl xpt))), (afq, .inr (1, [.long xfa, .long xfb]))]) rfl rfl rfl rfl hl.1 rfl (Nat.le_of_ble_eq_true rfl) dX0_writeEquations_13 (fun H locs w => ?_)
        refine fr_callIN (As := [.int xfs, .int (f_X0_otherAt xba i1)]) (rest := []) C w kf_X6_isIn C.2.2.2.2.2.2.2 (c_X6_isIn l D cI cJ xfs (f_X0_otherAt xba i1)) ⟨Nat.le_of_ble_eq_true rfl, Nat.le_of_ble_eq_true rfl⟩ ⟨Nat.le_refl 0, Nat.le_refl 0⟩ [] rfl rfl rfl (ws' := [(af, .inr (0, [.ref afp, .ref afm, .ref afs, .ref aft, .ref afq, .int xfs, .int xba, .long xbe])), (afp, .inl (cJ, 25, .inr (.inl xpr))), (afm, .inl (cJ, 9, .inr (.inl w2))), (afs, .inl (cJ, 3, .inr (.inl w3))), (aft, .inl (cJ, 4, .inr (.inl xpt))), (afq, .inr (1, [.long xfa, .long xfb]))]) rfl rfl hl.1 rfl (Nat.le_of_ble_eq_true rfl) dX0_writeEquations_16 (fun H locs w => ?_)
        refine lv_istore_n (lv' := [(2, .int (f_X6_isIn xfs (f_X0_otherAt xba i1))), (0, .ref af), (1, .int i1)]) hx hb dX0_writeEquations_19 rfl hl (by decide) rfl (fun ls hl => ?_)
        refine lv_iconst (v := 0) hx hb dX0_writeEquations_20 (by decide) ?_
        refine lv_istore_n (lv' := [(3, .int 0), (2, .int (f_X6_isIn xfs (f_X0_otherAt xba i1))), (0, .ref af), (1, .int i1)]) hx hb dX0_writeEquations_21 rfl hl (by decide) rfl (fun ls hl => ?_)
        obtain ⟨y22, hy22⟩ : ∃ y, y = L_X0_writeEquations_22 xfs xba xpr i1 4 0 w2 := ⟨_, rfl⟩
        have hr : ((fun (v19 : Int64) => L_X0_writeEquations_2 xfs xba xpr n2 (i1 + 1) y22.2 (vp_updL w3 (Int32.toNatClampNeg i1) v19)) (if (f_X6_isIn xfs (f_X0_otherAt xba i1)) = 0 then 0 else (f_X0_fromBase xba xpr (f_X0_otherAt xba i1) 4))) = y2 := by rw [hy22]; exact hr
        have X22 : ∀ (H : Heap) (locs : List Loc), Wd D A s.heap H locs [(af, .inr (0, [.ref afp, .ref afm, .ref afs, .ref aft, .ref afq, .int xfs, .int xba, .long xbe])), (afp, .inl (cJ, 25, .inr (.inl xpr))), (afm, .inl (cJ, 9, .inr (.inl y22.2))), (afs, .inl (cJ, 3, .inr (.inl w3))), (aft, .inl (cJ, 4, .inr (.inl xpt))), (afq, .inr (1, [.long xfa, .long xfb]))] → ∀ (ls : Array Slot), lv_has ls 7 [(0, .ref af), (1, .int i1), (2, .int (f_X6_isIn xfs (f_X0_otherAt xba i1))), (3, .int y22.1)] → W p l e (rl 2) s m args below meth c H locs 0 0 Q (F0 m 105 ls []) := by
          intro H locs w ls hl
          refine lv_aload_n hx hb dX0_writeEquations_105 rfl (lv_at hl 0 rfl) ?_
          refine fr_get C w fg_X0_18 0 rfl rfl dX0_writeEquations_106 ?_
          refine lv_iload_n hx hb dX0_writeEquations_109 rfl (lv_at hl 1 rfl) ?_
          refine lv_iload_n hx hb dX0_writeEquations_110 rfl (lv_at hl 2 rfl) ?_
          have J128_20 : ∀ (v19 : Int64), v19 = (if (f_X6_isIn xfs (f_X0_otherAt xba i1)) = 0 then 0 else (f_X0_fromBase xba xpr (f_X0_otherAt xba i1) 4)) → ∀ (H : Heap) (locs : List Loc), Wd D A s.heap H locs [(af, .inr (0, [.ref afp, .ref afm, .ref afs, .ref aft, .ref afq, .int xfs, .int xba, .long xbe])), (afp, .inl (cJ, 25, .inr (.inl xpr))), (afm, .inl (cJ, 9, .inr (.inl y22.2))), (afs, .inl (cJ, 3, .inr (.inl w3))), (aft, .inl (cJ, 4, .inr (.inl xpt))), (afq, .inr (1, [.long xfa, .long xfb]))] → W p l e (rl 2) s m args below meth c H locs 0 0 Q (F0 m 128 ls [.long v19, .int i1, .ref afs]) := by
            intro v19 ev19 H locs w
            have hr : L_X0_writeEquations_2 xfs xba xpr n2 (i1 + 1) y22.2 (vp_updL w3 (Int32.toNatClampNeg i1) v19) = y2 := by subst ev19; exact hr
            refine fr_last C w 3 rfl (vi_ctr hk2 hkl2 (by omega) (by decide)) (ws' := [(af, .inr (0, [.ref afp, .ref afm, .ref afs, .ref aft, .ref afq, .int xfs, .int xba, .long xbe])), (afp, .inl (cJ, 25, .inr (.inl xpr))), (afm, .inl (cJ, 9, .inr (.inl y22.2))), (afs, .inl (cJ, 3, .inr (.inl (vp_updL w3 (Int32.toNatClampNeg i1) v19)))), (aft, .inl (cJ, 4, .inr (.inl xpt))), (afq, .inr (1, [.long xfa, .long xfb]))]) rfl dX0_writeEquations_128 (fun H locs w => ?_)
            refine lv_iinc (v := i1 + 1) (lv' := [(1, .int (i1 + 1)), (0, .ref af), (2, .int (f_X6_isIn xfs (f_X0_otherAt xba i1))), (3, .int y22.1)]) hx hb dX0_writeEquations_129 hl (k := 1) rfl rfl (by decide) rfl (fun ls hl => ?_)
            refine lv_goto (tgt := 2) hx hb dX0_writeEquations_132 (by decide) ?_
            exact ih2 (k2 + 1) (i1 + 1) y22.2 (vp_updL w3 (Int32.toNatClampNeg i1) v19) (by rw [hk2]; exact nI_1 k2) (by omega) (by omega) hr H locs w ls (lv_sub hl [1, 0] rfl)
          refine lv_if_eq (tgt := 127) hx hb dX0_writeEquations_111 (by decide) (fun c111_18 => ?_) (fun c111_18 => ?_)
          · refine lv_lconst (v := 0) hx hb dX0_writeEquations_127 (by decide) ?_
            exact J128_20 0 (by rw [if_pos c111_18]) _ _ w
          · refine lv_aload_n hx hb dX0_writeEquations_114 rfl (lv_at hl 0 rfl) ?_
            refine lv_aload_n hx hb dX0_writeEquations_115 rfl (lv_at hl 0 rfl) ?_
            refine lv_iload_n hx hb dX0_writeEquations_116 rfl (lv_at hl 1 rfl) ?_
            refine fr_callIV (As := [.int i1]) (rest := [.ref af, .int i1, .ref afs]) C w kf_X0_otherAt mw_18_15 (c_X0_otherAt l D cI cJ af afp afm afs aft afq xfs xba xbe xpr y22.2 w3 xpt xfa xfb i1) ⟨Nat.le_of_ble_eq_true rfl, Nat.le_of_ble_eq_true rfl⟩ ⟨Nat.le_refl 0, Nat.le_refl 0⟩ [0, 1, 2, 3, 4, 5] rfl rfl rfl (ws' := [(af, .inr (0, [.ref afp, .ref afm, .ref afs, .ref aft, .ref afq, .int xfs, .int xba, .long xbe])), (afp, .inl (cJ, 25, .inr (.inl xpr))), (afm, .inl (cJ, 9, .inr (.inl y22.2))), (afs, .inl (cJ, 3, .inr (.inl w3))), (aft, .inl (cJ, 4, .inr (.inl xpt))), (afq, .inr (1, [.long xfa, .long xfb]))]) rfl rfl rfl rfl hl.1 rfl (Nat.le_of_ble_eq_true rfl) dX0_writeEquations_117 (fun H locs w => ?_)
            refine lv_iconst (v := 4) hx hb dX0_writeEquations_120 (by decide) ?_
            refine fr_callLV (As := [.int (f_X0_otherAt xba i1), .int 4]) (rest := [.int i1, .ref afs]) C w kf_X0_fromBase mw_18_19 (c_X0_fromBase l D cI cJ af afp afm afs aft afq xfs xba xbe xpr y22.2 w3 xpt xfa xfb (f_X0_otherAt xba i1) 4) ⟨Nat.le_of_ble_eq_true rfl, Nat.le_of_ble_eq_true rfl⟩ ⟨Nat.le_refl 0, Nat.le_refl 0⟩ [0, 1, 2, 3, 4, 5] rfl rfl rfl (ws' := [(af, .inr (0, [.ref afp, .ref afm, .ref afs, .ref aft, .ref afq, .int xfs, .int xba, .long xbe])), (afp, .inl (cJ, 25, .inr (.inl xpr))), (afm, .inl (cJ, 9, .inr (.inl y22.2))), (afs, .inl (cJ, 3, .inr (.inl w3))), (aft, .inl (cJ, 4, .inr (.inl xpt))), (afq, .inr (1, [.long xfa, .long xfb]))]) rfl rfl rfl rfl hl.1 rfl (Nat.le_of_ble_eq_true rfl) dX0_writeEquations_121 (fun H locs w => ?_)
            refine lv_goto (tgt := 128) hx hb dX0_writeEquations_124 (by decide) ?_
            exact J128_20 (f_X0_fromBase xba xpr (f_X0_otherAt xba i1) 4) (by rw [if_neg c111_18]) _ _ w
        have LP22 : ∀ (n22 : Nat) (k22 : Nat) (i5 : Int32) (w6 : Nat → Int64), i5 = nI k22 → k22 ≤ 3 → 3 < k22 + n22 → L_X0_writeEquations_22 xfs xba xpr i1 n22 i5 w6 = y22 → ∀ (H : Heap) (locs : List Loc), Wd D A s.heap H locs [(af, .inr (0, [.ref afp, .ref afm, .ref afs, .ref aft, .ref afq, .int xfs, .int xba, .long xbe])), (afp, .inl (cJ, 25, .inr (.inl xpr))), (afm, .inl (cJ, 9, .inr (.inl w6))), (afs, .inl (cJ, 3, .inr (.inl w3))), (aft, .inl (cJ, 4, .inr (.inl xpt))), (afq, .inr (1, [.long xfa, .long xfb]))] → ∀ (ls : Array Slot), lv_has ls 7 [(0, .ref af), (1, .int i1), (2, .int (f_X6_isIn xfs (f_X0_otherAt xba i1))), (3, .int i5)] → W p l e (rl 2) s m args below meth c H locs 0 0 Q (F0 m 22 ls []) := by
          clear hr
          intro n22
          induction n22 with
          | zero => intro k22 i5 w6 hk22 hkN22 hn22; exact absurd hn22 (by omega)
          | succ n22 ih22 =>
            intro k22 i5 w6 hk22 hkN22 hn22 hr H locs w ls hl
            have hr : (if 3 ≤ i5 then (i5, w6) else ((fun (v9 : Int64) => ((fun (v12 : Int32) => ((fun (v14 : Int64) => L_X0_writeEquations_22 xfs xba xpr i1 n22 (i5 + 1) (vp_updL w6 (Int32.toNatClampNeg ((i1 * 3) + i5)) v14)) (if v12 = 0 then v9 else (f_X0_fromBase xba xpr (f_X0_otherAt xba i1) (f_X0_otherAt xba i5))))) (if (f_X6_isIn xfs (f_X0_otherAt xba i1)) = 0 then 0 else (if (f_X6_isIn xfs (f_X0_otherAt xba i5)) = 0 then 0 else 1)))) (if i1 = i5 then 1 else 0))) = y22 := hr
            refine lv_iload_n hx hb dX0_writeEquations_22 rfl (lv_at hl 3 rfl) ?_
            refine lv_iconst (v := 3) hx hb dX0_writeEquations_23 (by decide) ?_
            refine lv_icmp_ge (tgt := 105) hx hb dX0_writeEquations_24 (by decide) (fun c24_7 => ?_) (fun c24_7 => ?_)
            · have hr := (if_pos c24_7).symm.trans hr
              subst hr
              exact X22 H locs w ls (lv_sub hl [0, 1, 2, 3] rfl)
            · have hr := (if_neg c24_7).symm.trans hr
              have hkl22 := kl_of hk22 hkN22 (N := 3) (by decide) (by omega) c24_7
              refine lv_iload_n hx hb dX0_writeEquations_27 rfl (lv_at hl 1 rfl) ?_
              refine lv_iload_n hx hb dX0_writeEquations_28 rfl (lv_at hl 3 rfl) ?_
              have J37_17 : ∀ (v9 : Int64), v9 = (if i1 = i5 then 1 else 0) → W p l e (rl 2) s m args below meth c H locs 0 0 Q (F0 m 37 ls [.long v9]) := by
                intro v9 ev9
                have hr : ((fun (v12 : Int32) => ((fun (v14 : Int64) => L_X0_writeEquations_22 xfs xba xpr i1 n22 (i5 + 1) (vp_updL w6 (Int32.toNatClampNeg ((i1 * 3) + i5)) v14)) (if v12 = 0 then v9 else (f_X0_fromBase xba xpr (f_X0_otherAt xba i1) (f_X0_otherAt xba i5))))) (if (f_X6_isIn xfs (f_X0_otherAt xba i1)) = 0 then 0 else (if (f_X6_isIn xfs (f_X0_otherAt xba i5)) = 0 then 0 else 1))) = y22 := by subst ev9; exact hr
                refine lv_lstore (lv' := [(4, .long v9), (0, .ref af), (1, .int i1), (2, .int (f_X6_isIn xfs (f_X0_otherAt xba i1))), (3, .int i5)]) hx hb dX0_writeEquations_37 hl (by decide) rfl (fun ls hl => ?_)
                refine lv_iload_n hx hb dX0_writeEquations_39 rfl (lv_at hl 3 rfl) ?_
                have J63_16 : ∀ (v12 : Int32), v12 = (if (f_X6_isIn xfs (f_X0_otherAt xba i1)) = 0 then 0 else (if (f_X6_isIn xfs (f_X0_otherAt xba i5)) = 0 then 0 else 1)) → ∀ (H : Heap) (locs : List Loc), Wd D A s.heap H locs [(af, .inr (0, [.ref afp, .ref afm, .ref afs, .ref aft, .ref afq, .int xfs, .int xba, .long xbe])), (afp, .inl (cJ, 25, .inr (.inl xpr))), (afm, .inl (cJ, 9, .inr (.inl w6))), (afs, .inl (cJ, 3, .inr (.inl w3))), (aft, .inl (cJ, 4, .inr (.inl xpt))), (afq, .inr (1, [.long xfa, .long xfb]))] → W p l e (rl 2) s m args below meth c H locs 0 0 Q (F0 m 63 ls [.int v12]) := by
                  intro v12 ev12 H locs w
                  have hr : ((fun (v14 : Int64) => L_X0_writeEquations_22 xfs xba xpr i1 n22 (i5 + 1) (vp_updL w6 (Int32.toNatClampNeg ((i1 * 3) + i5)) v14)) (if v12 = 0 then v9 else (f_X0_fromBase xba xpr (f_X0_otherAt xba i1) (f_X0_otherAt xba i5)))) = y22 := by subst ev12; exact hr
                  refine lv_istore (lv' := [(6, .int v12), (4, .long v9), (0, .ref af), (1, .int i1), (2, .int (f_X6_isIn xfs (f_X0_otherAt xba i1))), (3, .int i5)]) hx hb dX0_writeEquations_63 hl (by decide) rfl (fun ls hl => ?_)
                  refine lv_aload_n hx hb dX0_writeEquations_65 rfl (lv_at hl 2 rfl) ?_
                  refine fr_get C w fg_X0_15 0 rfl rfl dX0_writeEquations_66 ?_
                  refine lv_iload_n hx hb dX0_writeEquations_69 rfl (lv_at hl 3 rfl) ?_
                  refine lv_iconst (v := 3) hx hb dX0_writeEquations_70 (by decide) ?_
                  refine lv_imul hx hb dX0_writeEquations_71 ?_
                  refine lv_iload_n hx hb dX0_writeEquations_72 rfl (lv_at hl 5 rfl) ?_
                  refine lv_iadd hx hb dX0_writeEquations_73 ?_
                  refine lv_iload hx hb dX0_writeEquations_74 (lv_at hl 0 rfl) ?_
                  have J98_15 : ∀ (v14 : Int64), v14 = (if v12 = 0 then v9 else (f_X0_fromBase xba xpr (f_X0_otherAt xba i1) (f_X0_otherAt xba i5))) → ∀ (H : Heap) (locs : List Loc), Wd D A s.heap H locs [(af, .inr (0, [.ref afp, .ref afm, .ref afs, .ref aft, .ref afq, .int xfs, .int xba, .long xbe])), (afp, .inl (cJ, 25, .inr (.inl xpr))), (afm, .inl (cJ, 9, .inr (.inl w6))), (afs, .inl (cJ, 3, .inr (.inl w3))), (aft, .inl (cJ, 4, .inr (.inl xpt))), (afq, .inr (1, [.long xfa, .long xfb]))] → W p l e (rl 2) s m args below meth c H locs 0 0 Q (F0 m 98 ls [.long v14, .int ((i1 * 3) + i5), .ref afm]) := by
                    intro v14 ev14 H locs w
                    have hr : L_X0_writeEquations_22 xfs xba xpr i1 n22 (i5 + 1) (vp_updL w6 (Int32.toNatClampNeg ((i1 * 3) + i5)) v14) = y22 := by subst ev14; exact hr
                    refine fr_last C w 2 rfl (vi_lin hk2 hk22 (cn := 3) (by decide) (by omega) (by decide)) (ws' := [(af, .inr (0, [.ref afp, .ref afm, .ref afs, .ref aft, .ref afq, .int xfs, .int xba, .long xbe])), (afp, .inl (cJ, 25, .inr (.inl xpr))), (afm, .inl (cJ, 9, .inr (.inl (vp_updL w6 (Int32.toNatClampNeg ((i1 * 3) + i5)) v14)))), (afs, .inl (cJ, 3, .inr (.inl w3))), (aft, .inl (cJ, 4, .inr (.inl xpt))), (afq, .inr (1, [.long xfa, .long xfb]))]) rfl dX0_writeEquations_98 (fun H locs w => ?_)
                    refine lv_iinc (v := i5 + 1) (lv' := [(3, .int (i5 + 1)), (6, .int v12), (4, .long v9), (0, .ref af), (1, .int i1), (2, .int (f_X6_isIn xfs (f_X0_otherAt xba i1)))]) hx hb dX0_writeEquations_99 hl (k := 5) rfl rfl (by decide) rfl (fun ls hl => ?_)
                    refine lv_goto (tgt := 22) hx hb dX0_writeEquations_102 (by decide) ?_
                    exact ih22 (k22 + 1) (i5 + 1) (vp_updL w6 (Int32.toNatClampNeg ((i1 * 3) + i5)) v14) (by rw [hk22]; exact nI_1 k22) (by omega) (by omega) hr H locs w ls (lv_sub hl [3, 4, 5, 0] rfl)
                  refine lv_if_eq (tgt := 96) hx hb dX0_writeEquations_76 (by decide) (fun c76_13 => ?_) (fun c76_13 => ?_)
                  · refine lv_lload hx hb dX0_writeEquations_96 (lv_at hl 1 rfl) ?_
                    exact J98_15 v9 (by rw [if_pos c76_13]) _ _ w
                  · refine lv_aload_n hx hb dX0_writeEquations_79 rfl (lv_at hl 2 rfl) ?_
                    refine lv_aload_n hx hb dX0_writeEquations_80 rfl (lv_at hl 2 rfl) ?_
                    refine lv_iload_n hx hb dX0_writeEquations_81 rfl (lv_at hl 3 rfl) ?_
                    refine fr_callIV (As := [.int i1]) (rest := [.ref af, .int ((i1 * 3) + i5), .ref afm]) C w kf_X0_otherAt mw_18_15 (c_X0_otherAt l D cI cJ af afp afm afs aft afq xfs xba xbe xpr w6 w3 xpt xfa xfb i1) ⟨Nat.le_of_ble_eq_true rfl, Nat.le_of_ble_eq_true rfl⟩ ⟨Nat.le_refl 0, Nat.le_refl 0⟩ [0, 1, 2, 3, 4, 5] rfl rfl rfl (ws' := [(af, .inr (0, [.ref afp, .ref afm, .ref afs, .ref aft, .ref afq, .int xfs, .int xba, .long xbe])), (afp, .inl (cJ, 25, .inr (.inl xpr))), (afm, .inl (cJ, 9, .inr (.inl w6))), (afs, .inl (cJ, 3, .inr (.inl w3))), (aft, .inl (cJ, 4, .inr (.inl xpt))), (afq, .inr (1, [.long xfa, .long xfb]))]) rfl rfl rfl rfl hl.1 rfl (Nat.le_of_ble_eq_true rfl) dX0_writeEquations_82 (fun H locs w => ?_)
                    refine lv_aload_n hx hb dX0_writeEquations_85 rfl (lv_at hl 2 rfl) ?_
                    refine lv_iload_n hx hb dX0_writeEquations_86 rfl (lv_at hl 5 rfl) ?_
                    refine fr_callIV (As := [.int i5]) (rest := [.int (f_X0_otherAt xba i1), .ref af, .int ((i1 * 3) + i5), .ref afm]) C w kf_X0_otherAt mw_18_15 (c_X0_otherAt l D cI cJ af afp afm afs aft afq xfs xba xbe xpr w6 w3 xpt xfa xfb i5) ⟨Nat.le_of_ble_eq_true rfl, Nat.le_of_ble_eq_true rfl⟩ ⟨Nat.le_refl 0, Nat.le_refl 0⟩ [0, 1, 2, 3, 4, 5] rfl rfl rfl (ws' := [(af, .inr (0, [.ref afp, .ref afm, .ref afs, .ref aft, .ref afq, .int xfs, .int xba, .long xbe])), (afp, .inl (cJ, 25, .inr (.inl xpr))), (afm, .inl (cJ, 9, .inr (.inl w6))), (afs, .inl (cJ, 3, .inr (.inl w3))), (aft, .inl (cJ, 4, .inr (.inl xpt))), (afq, .inr (1, [.long xfa, .long xfb]))]) rfl rfl rfl rfl hl.1 rfl (Nat.le_of_ble_eq_true rfl) dX0_writeEquations_87 (fun H locs w => ?_)
                    refine fr_callLV (As := [.int (f_X0_otherAt xba i1), .int (f_X0_otherAt xba i5)]) (rest := [.int ((i1 * 3) + i5), .ref afm]) C w kf_X0_fromBase mw_18_19 (c_X0_fromBase l D cI cJ af afp afm afs aft afq xfs xba xbe xpr w6 w3 xpt xfa xfb (f_X0_otherAt xba i1) (f_X0_otherAt xba i5)) ⟨Nat.le_of_ble_eq_true rfl, Nat.le_of_ble_eq_true rfl⟩ ⟨Nat.le_refl 0, Nat.le_refl 0⟩ [0, 1, 2, 3, 4, 5] rfl rfl rfl (ws' := [(af, .inr (0, [.ref afp, .ref afm, .ref afs, .ref aft, .ref afq, .int xfs, .int xba, .long xbe])), (afp, .inl (cJ, 25, .inr (.inl xpr))), (afm, .inl (cJ, 9, .inr (.inl w6))), (afs, .inl (cJ, 3, .inr (.inl w3))), (aft, .inl (cJ, 4, .inr (.inl xpt))), (afq, .inr (1, [.long xfa, .long xfb]))]) rfl rfl rfl rfl hl.1 rfl (Nat.le_of_ble_eq_true rfl) dX0_writeEquations_90 (fun H locs w => ?_)
                    refine lv_goto (tgt := 98) hx hb dX0_writeEquations_93 (by decide) ?_
                    exact J98_15 (f_X0_fromBase xba xpr (f_X0_otherAt xba i1) (f_X0_otherAt xba i5)) (by rw [if_neg c76_13]) _ _ w
                refine lv_if_eq (tgt := 62) hx hb dX0_writeEquations_40 (by decide) (fun c40_10 => ?_) (fun c40_10 => ?_)
                · refine lv_iconst (v := 0) hx hb dX0_writeEquations_62 (by decide) ?_
                  exact J63_16 0 (by rw [if_pos c40_10]) _ _ w
                · refine lv_aload_n hx hb dX0_writeEquations_43 rfl (lv_at hl 1 rfl) ?_
                  refine fr_get C w fg_X0_37 0 rfl rfl dX0_writeEquations_44 ?_
                  refine lv_aload_n hx hb dX0_writeEquations_47 rfl (lv_at hl 1 rfl) ?_
                  refine lv_iload_n hx hb dX0_writeEquations_48 rfl (lv_at hl 4 rfl) ?_
                  refine fr_callIV (As := [.int i5]) (rest := [.int xfs]) C w kf_X0_otherAt mw_18_15 (c_X0_otherAt l D cI cJ af afp afm afs aft afq xfs xba xbe xpr w6 w3 xpt xfa xfb i5) ⟨Nat.le_of_ble_eq_true rfl, Nat.le_of_ble_eq_true rfl⟩ ⟨Nat.le_refl 0, Nat.le_refl 0⟩ [0, 1, 2, 3, 4, 5] rfl rfl rfl (ws' := [(af, .inr (0, [.ref afp, .ref afm, .ref afs, .ref aft, .ref afq, .int xfs, .int xba, .long xbe])), (afp, .inl (cJ, 25, .inr (.inl xpr))), (afm, .inl (cJ, 9, .inr (.inl w6))), (afs, .inl (cJ, 3, .inr (.inl w3))), (aft, .inl (cJ, 4, .inr (.inl xpt))), (afq, .inr (1, [.long xfa, .long xfb]))]) rfl rfl rfl rfl hl.1 rfl (Nat.le_of_ble_eq_true rfl) dX0_writeEquations_49 (fun H locs w => ?_)
                  refine fr_callIN (As := [.int xfs, .int (f_X0_otherAt xba i5)]) (rest := []) C w kf_X6_isIn C.2.2.2.2.2.2.2 (c_X6_isIn l D cI cJ xfs (f_X0_otherAt xba i5)) ⟨Nat.le_of_ble_eq_true rfl, Nat.le_of_ble_eq_true rfl⟩ ⟨Nat.le_refl 0, Nat.le_refl 0⟩ [] rfl rfl rfl (ws' := [(af, .inr (0, [.ref afp, .ref afm, .ref afs, .ref aft, .ref afq, .int xfs, .int xba, .long xbe])), (afp, .inl (cJ, 25, .inr (.inl xpr))), (afm, .inl (cJ, 9, .inr (.inl w6))), (afs, .inl (cJ, 3, .inr (.inl w3))), (aft, .inl (cJ, 4, .inr (.inl xpt))), (afq, .inr (1, [.long xfa, .long xfb]))]) rfl rfl hl.1 rfl (Nat.le_of_ble_eq_true rfl) dX0_writeEquations_52 (fun H locs w => ?_)
                  refine lv_if_eq (tgt := 62) hx hb dX0_writeEquations_55 (by decide) (fun c55_11 => ?_) (fun c55_11 => ?_)
                  · refine lv_iconst (v := 0) hx hb dX0_writeEquations_62 (by decide) ?_
                    exact J63_16 0 (by rw [if_neg c40_10, if_pos c55_11]) _ _ w
                  · refine lv_iconst (v := 1) hx hb dX0_writeEquations_58 (by decide) ?_
                    refine lv_goto (tgt := 63) hx hb dX0_writeEquations_59 (by decide) ?_
                    exact J63_16 1 (by rw [if_neg c40_10, if_neg c55_11]) _ _ w
              refine lv_icmp_ne (tgt := 36) hx hb dX0_writeEquations_29 (by decide) (fun c29_8 => ?_) (fun c29_8 => ?_)
              · refine lv_lconst (v := 0) hx hb dX0_writeEquations_36 (by decide) ?_
                exact J37_17 0 (by rw [if_neg c29_8])
              · refine lv_lconst (v := 1) hx hb dX0_writeEquations_32 (by decide) ?_
                refine lv_goto (tgt := 37) hx hb dX0_writeEquations_33 (by decide) ?_
                exact J37_17 1 (by rw [if_pos c29_8])
        exact LP22 4 0 0 w2 (by decide) (by omega) (by omega) hy22.symm H locs w ls (lv_sub hl [2, 3, 1, 0] rfl)
  exact LP2 4 0 0 xmx xsd (by decide) (by omega) (by omega) hy2.symm H locs w ls (lv_sub hl [1, 0] rfl)
def L_X0_solveParts_18 (xmx : Nat → Int64) (xsd : Nat → Int64) (i2 : Int32) : Nat → Int64 → Int32 → Int64 × Int32
  | 0, _, _ => (0, 0)
  | n18 + 1, i5, i6 => (if 3 ≤ i6 then (i5, i6) else L_X0_solveParts_18 xmx xsd i2 n18 (i5 + ((f_X0_cofactor xmx i2 i6) * (xsd (Int32.toNatClampNeg i6)))) (i6 + 1))
def L_X0_solveParts_7 (xba : Int32) (xmx : Nat → Int64) (xsd : Nat → Int64) : Nat → Int64 → Int32 → (Nat → Int64) → Int64 × Int32 × (Nat → Int64)
  | 0, _, _, _ => (0, 0, fun _ => 0)
  | n7 + 1, i1, i2, w3 => (if 3 ≤ i2 then (i1, i2, w3) else ((fun (y18 : Int64 × Int32) => L_X0_solveParts_7 xba xmx xsd n7 (i1 - y18.1) (i2 + 1) (f_X0_putPart w3 (f_X0_otherAt xba i2) y18.1)) (L_X0_solveParts_18 xmx xsd i2 4 0 0)))
def f_X0_solveParts (xba : Int32) (xbe : Int64) (xmx : Nat → Int64) (xsd : Nat → Int64) (xpt : Nat → Int64) : (Nat → Int64) := ((fun (y7 : Int64 × Int32 × (Nat → Int64)) => (f_X0_putPart y7.2.2 xba y7.1)) (L_X0_solveParts_7 xba xmx xsd 4 xbe 0 xpt))
set_option maxRecDepth 100000 in
set_option maxHeartbeats 4000000 in
theorem c_X0_solveParts (l : Launch) (D : va_G) (cI cJ : ClassId) (af afp afm afs aft afq : Nat) (xfs : Int32) (xba : Int32) (xbe : Int64) (xpr : Nat → Int64) (xmx : Nat → Int64) (xsd : Nat → Int64) (xpt : Nat → Int64) (xfa : Int64) (xfb : Int64)  : CV l yX0_solveParts cX0_solveParts 7 2 D cI cJ [.ref af] [(af, .inr (0, [.ref afp, .ref afm, .ref afs, .ref aft, .ref afq, .int xfs, .int xba, .long xbe])), (afp, .inl (cJ, 25, .inr (.inl xpr))), (afm, .inl (cJ, 9, .inr (.inl xmx))), (afs, .inl (cJ, 3, .inr (.inl xsd))), (aft, .inl (cJ, 4, .inr (.inl xpt))), (afq, .inr (1, [.long xfa, .long xfb]))] [(af, .inr (0, [.ref afp, .ref afm, .ref afs, .ref aft, .ref afq, .int xfs, .int xba, .long xbe])), (afp, .inl (cJ, 25, .inr (.inl xpr))), (afm, .inl (cJ, 9, .inr (.inl xmx))), (afs, .inl (cJ, 3, .inr (.inl xsd))), (aft, .inl (cJ, 4, .inr (.inl (f_X0_solveParts xba xbe xmx xsd xpt)))), (afq, .inr (1, [.long xfa, .long xfb]))] := by
  generalize hr : f_X0_solveParts xba xbe xmx xsd xpt = r
  refine fr_entryV (by decide) rfl ?_
  intro p e s m args below meth c A Q H locs hQ C hret hlk w ls hl
  have hx := C.1
  have hb := C.2.1
  have hl : lv_has ls 7 [(0, .ref af)] := hl
  have hr : ((fun (y7 : Int64 × Int32 × (Nat → Int64)) => (f_X0_putPart y7.2.2 xba y7.1)) (L_X0_solveParts_7 xba xmx xsd 4 xbe 0 xpt)) = r := hr
  refine lv_aload_n hx hb dX0_solveParts_0 rfl (lv_at hl 0 rfl) ?_
  refine fr_get C w fg_X0_55 0 rfl rfl dX0_solveParts_1 ?_
  refine lv_lstore_n (lv' := [(1, .long xbe), (0, .ref af)]) hx hb dX0_solveParts_4 rfl hl (by decide) rfl (fun ls hl => ?_)
  refine lv_iconst (v := 0) hx hb dX0_solveParts_5 (by decide) ?_
  refine lv_istore_n (lv' := [(3, .int 0), (1, .long xbe), (0, .ref af)]) hx hb dX0_solveParts_6 rfl hl (by decide) rfl (fun ls hl => ?_)
  obtain ⟨y7, hy7⟩ : ∃ y, y = L_X0_solveParts_7 xba xmx xsd 4 xbe 0 xpt := ⟨_, rfl⟩
  have hr : (f_X0_putPart y7.2.2 xba y7.1) = r := by rw [hy7]; exact hr
  have X7 : ∀ (H : Heap) (locs : List Loc), Wd D A s.heap H locs [(af, .inr (0, [.ref afp, .ref afm, .ref afs, .ref aft, .ref afq, .int xfs, .int xba, .long xbe])), (afp, .inl (cJ, 25, .inr (.inl xpr))), (afm, .inl (cJ, 9, .inr (.inl xmx))), (afs, .inl (cJ, 3, .inr (.inl xsd))), (aft, .inl (cJ, 4, .inr (.inl y7.2.2))), (afq, .inr (1, [.long xfa, .long xfb]))] → ∀ (ls : Array Slot), lv_has ls 7 [(0, .ref af), (1, .long y7.1), (3, .int y7.2.1)] → W p l e (rl 2) s m args below meth c H locs 0 0 Q (F0 m 72 ls []) := by
    intro H locs w ls hl
    refine lv_aload_n hx hb dX0_solveParts_72 rfl (lv_at hl 0 rfl) ?_
    refine lv_aload_n hx hb dX0_solveParts_73 rfl (lv_at hl 0 rfl) ?_
    refine fr_get C w fg_X0_45 0 rfl rfl dX0_solveParts_74 ?_
    refine lv_lload_n hx hb dX0_solveParts_77 rfl (lv_at hl 1 rfl) ?_
    refine fr_callVV (As := [.int xba, .long y7.1]) (rest := []) C w kf_X0_putPart mw_19_19 (c_X0_putPart l D cI cJ af afp afm afs aft afq xfs xba xbe xpr xmx xsd y7.2.2 xfa xfb xba y7.1) ⟨Nat.le_of_ble_eq_true rfl, Nat.le_of_ble_eq_true rfl⟩ ⟨Nat.le_refl 0, Nat.le_refl 0⟩ [0, 1, 2, 3, 4, 5] rfl rfl rfl (ws' := [(af, .inr (0, [.ref afp, .ref afm, .ref afs, .ref aft, .ref afq, .int xfs, .int xba, .long xbe])), (afp, .inl (cJ, 25, .inr (.inl xpr))), (afm, .inl (cJ, 9, .inr (.inl xmx))), (afs, .inl (cJ, 3, .inr (.inl xsd))), (aft, .inl (cJ, 4, .inr (.inl (f_X0_putPart y7.2.2 xba y7.1)))), (afq, .inr (1, [.long xfa, .long xfb]))]) rfl rfl rfl rfl hl.1 rfl (Nat.le_of_ble_eq_true rfl) dX0_solveParts_78 (fun H locs w => ?_)
    subst hr hQ
    exact fr_vret C hret hlk w rfl dX0_solveParts_81
  have LP7 : ∀ (n7 : Nat) (k7 : Nat) (i1 : Int64) (i2 : Int32) (w3 : Nat → Int64), i2 = nI k7 → k7 ≤ 3 → 3 < k7 + n7 → L_X0_solveParts_7 xba xmx xsd n7 i1 i2 w3 = y7 → ∀ (H : Heap) (locs : List Loc), Wd D A s.heap H locs [(af, .inr (0, [.ref afp, .ref afm, .ref afs, .ref aft, .ref afq, .int xfs, .int xba, .long xbe])), (afp, .inl (cJ, 25, .inr (.inl xpr))), (afm, .inl (cJ, 9, .inr (.inl xmx))), (afs, .inl (cJ, 3, .inr (.inl xsd))), (aft, .inl (cJ, 4, .inr (.inl w3))), (afq, .inr (1, [.long xfa, .long xfb]))] → ∀ (ls : Array Slot), lv_has ls 7 [(0, .ref af), (1, .long i1), (3, .int i2)] → W p l e (rl 2) s m args below meth c H locs 0 0 Q (F0 m 7 ls []) := by
    clear hr
    intro n7
    induction n7 with
    | zero => intro k7 i1 i2 w3 hk7 hkN7 hn7; exact absurd hn7 (by omega)
    | succ n7 ih7 =>
      intro k7 i1 i2 w3 hk7 hkN7 hn7 hr H locs w ls hl
      have hr : (if 3 ≤ i2 then (i1, i2, w3) else ((fun (y18 : Int64 × Int32) => L_X0_solveParts_7 xba xmx xsd n7 (i1 - y18.1) (i2 + 1) (f_X0_putPart w3 (f_X0_otherAt xba i2) y18.1)) (L_X0_solveParts_18 xmx xsd i2 4 0 0))) = y7 := hr
      refine lv_iload_n hx hb dX0_solveParts_7 rfl (lv_at hl 2 rfl) ?_
      refine lv_iconst (v := 3) hx hb dX0_solveParts_8 (by decide) ?_
      refine lv_icmp_ge (tgt := 72) hx hb dX0_solveParts_9 (by decide) (fun c9_4 => ?_) (fun c9_4 => ?_)
      · have hr := (if_pos c9_4).symm.trans hr
        subst hr
        exact X7 H locs w ls (lv_sub hl [0, 1, 2] rfl)
      · have hr := (if_neg c9_4).symm.trans hr
        have hkl7 := kl_of hk7 hkN7 (N := 3) (by decide) (by omega) c9_4
        refine lv_lconst (v := 0) hx hb dX0_solveParts_12 (by decide) ?_
        refine lv_lstore (lv' := [(4, .long 0), (0, .ref af), (1, .long i1), (3, .int i2)]) hx hb dX0_solveParts_13 hl (by decide) rfl (fun ls hl => ?_)
        refine lv_iconst (v := 0) hx hb dX0_solveParts_15 (by decide) ?_
        refine lv_istore (lv' := [(6, .int 0), (4, .long 0), (0, .ref af), (1, .long i1), (3, .int i2)]) hx hb dX0_solveParts_16 hl (by decide) rfl (fun ls hl => ?_)
        obtain ⟨y18, hy18⟩ : ∃ y, y = L_X0_solveParts_18 xmx xsd i2 4 0 0 := ⟨_, rfl⟩
        have hr : L_X0_solveParts_7 xba xmx xsd n7 (i1 - y18.1) (i2 + 1) (f_X0_putPart w3 (f_X0_otherAt xba i2) y18.1) = y7 := by rw [hy18]; exact hr
        have X18 : ∀ (H : Heap) (locs : List Loc), Wd D A s.heap H locs [(af, .inr (0, [.ref afp, .ref afm, .ref afs, .ref aft, .ref afq, .int xfs, .int xba, .long xbe])), (afp, .inl (cJ, 25, .inr (.inl xpr))), (afm, .inl (cJ, 9, .inr (.inl xmx))), (afs, .inl (cJ, 3, .inr (.inl xsd))), (aft, .inl (cJ, 4, .inr (.inl w3))), (afq, .inr (1, [.long xfa, .long xfb]))] → ∀ (ls : Array Slot), lv_has ls 7 [(0, .ref af), (1, .long i1), (3, .int i2), (4, .long y18.1), (6, .int y18.2)] → W p l e (rl 2) s m args below meth c H locs 0 0 Q (F0 m 50 ls []) := by
          intro H locs w ls hl
          refine lv_aload_n hx hb dX0_solveParts_50 rfl (lv_at hl 0 rfl) ?_
          refine lv_aload_n hx hb dX0_solveParts_51 rfl (lv_at hl 0 rfl) ?_
          refine lv_iload_n hx hb dX0_solveParts_52 rfl (lv_at hl 2 rfl) ?_
          refine fr_callIV (As := [.int i2]) (rest := [.ref af]) C w kf_X0_otherAt mw_18_15 (c_X0_otherAt l D cI cJ af afp afm afs aft afq xfs xba xbe xpr xmx xsd w3 xfa xfb i2) ⟨Nat.le_of_ble_eq_true rfl, Nat.le_of_ble_eq_true rfl⟩ ⟨Nat.le_refl 0, Nat.le_refl 0⟩ [0, 1, 2, 3, 4, 5] rfl rfl rfl (ws' := [(af, .inr (0, [.ref afp, .ref afm, .ref afs, .ref aft, .ref afq, .int xfs, .int xba, .long xbe])), (afp, .inl (cJ, 25, .inr (.inl xpr))), (afm, .inl (cJ, 9, .inr (.inl xmx))), (afs, .inl (cJ, 3, .inr (.inl xsd))), (aft, .inl (cJ, 4, .inr (.inl w3))), (afq, .inr (1, [.long xfa, .long xfb]))]) rfl rfl rfl rfl hl.1 rfl (Nat.le_of_ble_eq_true rfl) dX0_solveParts_53 (fun H locs w => ?_)
          refine lv_lload hx hb dX0_solveParts_56 (lv_at hl 3 rfl) ?_
          refine fr_callVV (As := [.int (f_X0_otherAt xba i2), .long y18.1]) (rest := []) C w kf_X0_putPart mw_19_19 (c_X0_putPart l D cI cJ af afp afm afs aft afq xfs xba xbe xpr xmx xsd w3 xfa xfb (f_X0_otherAt xba i2) y18.1) ⟨Nat.le_of_ble_eq_true rfl, Nat.le_of_ble_eq_true rfl⟩ ⟨Nat.le_refl 0, Nat.le_refl 0⟩ [0, 1, 2, 3, 4, 5] rfl rfl rfl (ws' := [(af, .inr (0, [.ref afp, .ref afm, .ref afs, .ref aft, .ref afq, .int xfs, .int xba, .long xbe])), (afp, .inl (cJ, 25, .inr (.inl xpr))), (afm, .inl (cJ, 9, .inr (.inl xmx))), (afs, .inl (cJ, 3, .inr (.inl xsd))), (aft, .inl (cJ, 4, .inr (.inl (f_X0_putPart w3 (f_X0_otherAt xba i2) y18.1)))), (afq, .inr (1, [.long xfa, .long xfb]))]) rfl rfl rfl rfl hl.1 rfl (Nat.le_of_ble_eq_true rfl) dX0_solveParts_58 (fun H locs w => ?_)
          refine lv_lload_n hx hb dX0_solveParts_61 rfl (lv_at hl 1 rfl) ?_
          refine lv_lload hx hb dX0_solveParts_62 (lv_at hl 3 rfl) ?_
          refine lv_lsub hx hb dX0_solveParts_64 ?_
          refine lv_lstore_n (lv' := [(1, .long (i1 - y18.1)), (0, .ref af), (3, .int i2), (4, .long y18.1), (6, .int y18.2)]) hx hb dX0_solveParts_65 rfl hl (by decide) rfl (fun ls hl => ?_)
          refine lv_iinc (v := i2 + 1) (lv' := [(3, .int (i2 + 1)), (1, .long (i1 - y18.1)), (0, .ref af), (4, .long y18.1), (6, .int y18.2)]) hx hb dX0_solveParts_66 hl (k := 2) rfl rfl (by decide) rfl (fun ls hl => ?_)
          refine lv_goto (tgt := 7) hx hb dX0_solveParts_69 (by decide) ?_
          exact ih7 (k7 + 1) (i1 - y18.1) (i2 + 1) (f_X0_putPart w3 (f_X0_otherAt xba i2) y18.1) (by rw [hk7]; exact nI_1 k7) (by omega) (by omega) hr H locs w ls (lv_sub hl [2, 1, 0] rfl)
        have LP18 : ∀ (n18 : Nat) (k18 : Nat) (i5 : Int64) (i6 : Int32), i6 = nI k18 → k18 ≤ 3 → 3 < k18 + n18 → L_X0_solveParts_18 xmx xsd i2 n18 i5 i6 = y18 → ∀ (H : Heap) (locs : List Loc), Wd D A s.heap H locs [(af, .inr (0, [.ref afp, .ref afm, .ref afs, .ref aft, .ref afq, .int xfs, .int xba, .long xbe])), (afp, .inl (cJ, 25, .inr (.inl xpr))), (afm, .inl (cJ, 9, .inr (.inl xmx))), (afs, .inl (cJ, 3, .inr (.inl xsd))), (aft, .inl (cJ, 4, .inr (.inl w3))), (afq, .inr (1, [.long xfa, .long xfb]))] → ∀ (ls : Array Slot), lv_has ls 7 [(0, .ref af), (1, .long i1), (3, .int i2), (4, .long i5), (6, .int i6)] → W p l e (rl 2) s m args below meth c H locs 0 0 Q (F0 m 18 ls []) := by
          clear hr
          intro n18
          induction n18 with
          | zero => intro k18 i5 i6 hk18 hkN18 hn18; exact absurd hn18 (by omega)
          | succ n18 ih18 =>
            intro k18 i5 i6 hk18 hkN18 hn18 hr H locs w ls hl
            have hr : (if 3 ≤ i6 then (i5, i6) else L_X0_solveParts_18 xmx xsd i2 n18 (i5 + ((f_X0_cofactor xmx i2 i6) * (xsd (Int32.toNatClampNeg i6)))) (i6 + 1)) = y18 := hr
            refine lv_iload hx hb dX0_solveParts_18 (lv_at hl 4 rfl) ?_
            refine lv_iconst (v := 3) hx hb dX0_solveParts_20 (by decide) ?_
            refine lv_icmp_ge (tgt := 50) hx hb dX0_solveParts_21 (by decide) (fun c21_7 => ?_) (fun c21_7 => ?_)
            · have hr := (if_pos c21_7).symm.trans hr
              subst hr
              exact X18 H locs w ls (lv_sub hl [0, 1, 2, 3, 4] rfl)
            · have hr := (if_neg c21_7).symm.trans hr
              have hkl18 := kl_of hk18 hkN18 (N := 3) (by decide) (by omega) c21_7
              refine lv_lload hx hb dX0_solveParts_24 (lv_at hl 3 rfl) ?_
              refine lv_aload_n hx hb dX0_solveParts_26 rfl (lv_at hl 0 rfl) ?_
              refine lv_iload_n hx hb dX0_solveParts_27 rfl (lv_at hl 2 rfl) ?_
              refine lv_iload hx hb dX0_solveParts_28 (lv_at hl 4 rfl) ?_
              refine fr_callLV (As := [.int i2, .int i6]) (rest := [.long i5]) C w kf_X0_cofactor mw_19_7 (c_X0_cofactor l D cI cJ af afp afm afs aft afq xfs xba xbe xpr xmx xsd w3 xfa xfb i2 i6) ⟨Nat.le_of_ble_eq_true rfl, Nat.le_of_ble_eq_true rfl⟩ ⟨Nat.le_refl 0, Nat.le_refl 0⟩ [0, 1, 2, 3, 4, 5] rfl rfl rfl (ws' := [(af, .inr (0, [.ref afp, .ref afm, .ref afs, .ref aft, .ref afq, .int xfs, .int xba, .long xbe])), (afp, .inl (cJ, 25, .inr (.inl xpr))), (afm, .inl (cJ, 9, .inr (.inl xmx))), (afs, .inl (cJ, 3, .inr (.inl xsd))), (aft, .inl (cJ, 4, .inr (.inl w3))), (afq, .inr (1, [.long xfa, .long xfb]))]) rfl rfl rfl rfl hl.1 rfl (Nat.le_of_ble_eq_true rfl) dX0_solveParts_30 (fun H locs w => ?_)
              refine lv_aload_n hx hb dX0_solveParts_33 rfl (lv_at hl 0 rfl) ?_
              refine fr_get C w fg_X0_18 0 rfl rfl dX0_solveParts_34 ?_
              refine lv_iload hx hb dX0_solveParts_37 (lv_at hl 4 rfl) ?_
              refine fr_lald C w 3 rfl (vi_ctr hk18 hkl18 (by omega) (by decide)) dX0_solveParts_39 ?_
              refine lv_lmul hx hb dX0_solveParts_40 ?_
              refine lv_ladd hx hb dX0_solveParts_41 ?_
              refine lv_lstore (lv' := [(4, .long (i5 + ((f_X0_cofactor xmx i2 i6) * (xsd (Int32.toNatClampNeg i6))))), (0, .ref af), (1, .long i1), (3, .int i2), (6, .int i6)]) hx hb dX0_solveParts_42 hl (by decide) rfl (fun ls hl => ?_)
              refine lv_iinc (v := i6 + 1) (lv' := [(6, .int (i6 + 1)), (4, .long (i5 + ((f_X0_cofactor xmx i2 i6) * (xsd (Int32.toNatClampNeg i6))))), (0, .ref af), (1, .long i1), (3, .int i2)]) hx hb dX0_solveParts_44 hl (k := 4) rfl rfl (by decide) rfl (fun ls hl => ?_)
              refine lv_goto (tgt := 18) hx hb dX0_solveParts_47 (by decide) ?_
              exact ih18 (k18 + 1) (i5 + ((f_X0_cofactor xmx i2 i6) * (xsd (Int32.toNatClampNeg i6)))) (i6 + 1) (by rw [hk18]; exact nI_1 k18) (by omega) (by omega) hr H locs w ls (lv_sub hl [2, 3, 4, 1, 0] rfl)
        exact LP18 4 0 0 0 (by decide) (by omega) (by omega) hy18.symm H locs w ls (lv_sub hl [2, 3, 4, 1, 0] rfl)
  exact LP7 4 0 xbe 0 xpt (by decide) (by omega) (by omega) hy7.symm H locs w ls (lv_sub hl [2, 1, 0] rfl)
def L_X0_misfitAbove_14 (xba : Int32) (xsd : Nat → Int64) (xpt : Nat → Int64) : Nat → Int64 → Int32 → Int64 × Int32
  | 0, _, _ => (0, 0)
  | n14 + 1, i1, i2 => (if 3 ≤ i2 then (i1, i2) else L_X0_misfitAbove_14 xba xsd xpt n14 (i1 - ((xsd (Int32.toNatClampNeg i2)) * (f_X0_partOf xpt (f_X0_otherAt xba i2)))) (i2 + 1))
def f_X0_misfitAbove (xba : Int32) (xbe : Int64) (xpr : Nat → Int64) (xsd : Nat → Int64) (xpt : Nat → Int64) : Int64 := ((fun (y14 : Int64 × Int32) => y14.1) (L_X0_misfitAbove_14 xba xsd xpt 4 (xbe * (f_X0_fromBase xba xpr 4 4)) 0))
set_option maxRecDepth 100000 in
set_option maxHeartbeats 4000000 in
theorem c_X0_misfitAbove (l : Launch) (D : va_G) (cI cJ : ClassId) (af afp afm afs aft afq : Nat) (xfs : Int32) (xba : Int32) (xbe : Int64) (xpr : Nat → Int64) (xmx : Nat → Int64) (xsd : Nat → Int64) (xpt : Nat → Int64) (xfa : Int64) (xfb : Int64)  : CL l yX0_misfitAbove cX0_misfitAbove 4 2 D cI cJ [.ref af] [(af, .inr (0, [.ref afp, .ref afm, .ref afs, .ref aft, .ref afq, .int xfs, .int xba, .long xbe])), (afp, .inl (cJ, 25, .inr (.inl xpr))), (afm, .inl (cJ, 9, .inr (.inl xmx))), (afs, .inl (cJ, 3, .inr (.inl xsd))), (aft, .inl (cJ, 4, .inr (.inl xpt))), (afq, .inr (1, [.long xfa, .long xfb]))] [(af, .inr (0, [.ref afp, .ref afm, .ref afs, .ref aft, .ref afq, .int xfs, .int xba, .long xbe])), (afp, .inl (cJ, 25, .inr (.inl xpr))), (afm, .inl (cJ, 9, .inr (.inl xmx))), (afs, .inl (cJ, 3, .inr (.inl xsd))), (aft, .inl (cJ, 4, .inr (.inl xpt))), (afq, .inr (1, [.long xfa, .long xfb]))] (f_X0_misfitAbove xba xbe xpr xsd xpt) := by
  generalize hr : f_X0_misfitAbove xba xbe xpr xsd xpt = r
  refine fr_entryL (by decide) rfl ?_
  intro p e s m args below meth c A Q H locs hQ C hret hlk w ls hl
  have hx := C.1
  have hb := C.2.1
  have hl : lv_has ls 4 [(0, .ref af)] := hl
  have hr : ((fun (y14 : Int64 × Int32) => y14.1) (L_X0_misfitAbove_14 xba xsd xpt 4 (xbe * (f_X0_fromBase xba xpr 4 4)) 0)) = r := hr
  refine lv_aload_n hx hb dX0_misfitAbove_0 rfl (lv_at hl 0 rfl) ?_
  refine fr_get C w fg_X0_55 0 rfl rfl dX0_misfitAbove_1 ?_
  refine lv_aload_n hx hb dX0_misfitAbove_4 rfl (lv_at hl 0 rfl) ?_
  refine lv_iconst (v := 4) hx hb dX0_misfitAbove_5 (by decide) ?_
  refine lv_iconst (v := 4) hx hb dX0_misfitAbove_6 (by decide) ?_
  refine fr_callLV (As := [.int 4, .int 4]) (rest := [.long xbe]) C w kf_X0_fromBase mw_18_19 (c_X0_fromBase l D cI cJ af afp afm afs aft afq xfs xba xbe xpr xmx xsd xpt xfa xfb 4 4) ⟨Nat.le_of_ble_eq_true rfl, Nat.le_of_ble_eq_true rfl⟩ ⟨Nat.le_refl 0, Nat.le_refl 0⟩ [0, 1, 2, 3, 4, 5] rfl rfl rfl (ws' := [(af, .inr (0, [.ref afp, .ref afm, .ref afs, .ref aft, .ref afq, .int xfs, .int xba, .long xbe])), (afp, .inl (cJ, 25, .inr (.inl xpr))), (afm, .inl (cJ, 9, .inr (.inl xmx))), (afs, .inl (cJ, 3, .inr (.inl xsd))), (aft, .inl (cJ, 4, .inr (.inl xpt))), (afq, .inr (1, [.long xfa, .long xfb]))]) rfl rfl rfl rfl hl.1 rfl (Nat.le_of_ble_eq_true rfl) dX0_misfitAbove_7 (fun H locs w => ?_)
  refine lv_lmul hx hb dX0_misfitAbove_10 ?_
  refine lv_lstore_n (lv' := [(1, .long (xbe * (f_X0_fromBase xba xpr 4 4))), (0, .ref af)]) hx hb dX0_misfitAbove_11 rfl hl (by decide) rfl (fun ls hl => ?_)
  refine lv_iconst (v := 0) hx hb dX0_misfitAbove_12 (by decide) ?_
  refine lv_istore_n (lv' := [(3, .int 0), (1, .long (xbe * (f_X0_fromBase xba xpr 4 4))), (0, .ref af)]) hx hb dX0_misfitAbove_13 rfl hl (by decide) rfl (fun ls hl => ?_)
  obtain ⟨y14, hy14⟩ : ∃ y, y = L_X0_misfitAbove_14 xba xsd xpt 4 (xbe * (f_X0_fromBase xba xpr 4 4)) 0 := ⟨_, rfl⟩
  have hr : y14.1 = r := by rw [hy14]; exact hr
  have X14 : ∀ (H : Heap) (locs : List Loc), Wd D A s.heap H locs [(af, .inr (0, [.ref afp, .ref afm, .ref afs, .ref aft, .ref afq, .int xfs, .int xba, .long xbe])), (afp, .inl (cJ, 25, .inr (.inl xpr))), (afm, .inl (cJ, 9, .inr (.inl xmx))), (afs, .inl (cJ, 3, .inr (.inl xsd))), (aft, .inl (cJ, 4, .inr (.inl xpt))), (afq, .inr (1, [.long xfa, .long xfb]))] → ∀ (ls : Array Slot), lv_has ls 4 [(0, .ref af), (1, .long y14.1), (3, .int y14.2)] → W p l e (rl 2) s m args below meth c H locs 0 0 Q (F0 m 44 ls []) := by
    intro H locs w ls hl
    refine lv_lload_n hx hb dX0_misfitAbove_44 rfl (lv_at hl 1 rfl) ?_
    subst hr hQ
    exact fr_lret C hret hlk w rfl rfl dX0_misfitAbove_45
  have LP14 : ∀ (n14 : Nat) (k14 : Nat) (i1 : Int64) (i2 : Int32), i2 = nI k14 → k14 ≤ 3 → 3 < k14 + n14 → L_X0_misfitAbove_14 xba xsd xpt n14 i1 i2 = y14 → ∀ (H : Heap) (locs : List Loc), Wd D A s.heap H locs [(af, .inr (0, [.ref afp, .ref afm, .ref afs, .ref aft, .ref afq, .int xfs, .int xba, .long xbe])), (afp, .inl (cJ, 25, .inr (.inl xpr))), (afm, .inl (cJ, 9, .inr (.inl xmx))), (afs, .inl (cJ, 3, .inr (.inl xsd))), (aft, .inl (cJ, 4, .inr (.inl xpt))), (afq, .inr (1, [.long xfa, .long xfb]))] → ∀ (ls : Array Slot), lv_has ls 4 [(0, .ref af), (1, .long i1), (3, .int i2)] → W p l e (rl 2) s m args below meth c H locs 0 0 Q (F0 m 14 ls []) := by
    clear hr
    intro n14
    induction n14 with
    | zero => intro k14 i1 i2 hk14 hkN14 hn14; exact absurd hn14 (by omega)
    | succ n14 ih14 =>
      intro k14 i1 i2 hk14 hkN14 hn14 hr H locs w ls hl
      have hr : (if 3 ≤ i2 then (i1, i2) else L_X0_misfitAbove_14 xba xsd xpt n14 (i1 - ((xsd (Int32.toNatClampNeg i2)) * (f_X0_partOf xpt (f_X0_otherAt xba i2)))) (i2 + 1)) = y14 := hr
      refine lv_iload_n hx hb dX0_misfitAbove_14 rfl (lv_at hl 2 rfl) ?_
      refine lv_iconst (v := 3) hx hb dX0_misfitAbove_15 (by decide) ?_
      refine lv_icmp_ge (tgt := 44) hx hb dX0_misfitAbove_16 (by decide) (fun c16_3 => ?_) (fun c16_3 => ?_)
      · have hr := (if_pos c16_3).symm.trans hr
        subst hr
        exact X14 H locs w ls (lv_sub hl [0, 1, 2] rfl)
      · have hr := (if_neg c16_3).symm.trans hr
        have hkl14 := kl_of hk14 hkN14 (N := 3) (by decide) (by omega) c16_3
        refine lv_lload_n hx hb dX0_misfitAbove_19 rfl (lv_at hl 1 rfl) ?_
        refine lv_aload_n hx hb dX0_misfitAbove_20 rfl (lv_at hl 0 rfl) ?_
        refine fr_get C w fg_X0_18 0 rfl rfl dX0_misfitAbove_21 ?_
        refine lv_iload_n hx hb dX0_misfitAbove_24 rfl (lv_at hl 2 rfl) ?_
        refine fr_lald C w 3 rfl (vi_ctr hk14 hkl14 (by omega) (by decide)) dX0_misfitAbove_25 ?_
        refine lv_aload_n hx hb dX0_misfitAbove_26 rfl (lv_at hl 0 rfl) ?_
        refine lv_aload_n hx hb dX0_misfitAbove_27 rfl (lv_at hl 0 rfl) ?_
        refine lv_iload_n hx hb dX0_misfitAbove_28 rfl (lv_at hl 2 rfl) ?_
        refine fr_callIV (As := [.int i2]) (rest := [.ref af, .long (xsd (Int32.toNatClampNeg i2)), .long i1]) C w kf_X0_otherAt mw_18_15 (c_X0_otherAt l D cI cJ af afp afm afs aft afq xfs xba xbe xpr xmx xsd xpt xfa xfb i2) ⟨Nat.le_of_ble_eq_true rfl, Nat.le_of_ble_eq_true rfl⟩ ⟨Nat.le_refl 0, Nat.le_refl 0⟩ [0, 1, 2, 3, 4, 5] rfl rfl rfl (ws' := [(af, .inr (0, [.ref afp, .ref afm, .ref afs, .ref aft, .ref afq, .int xfs, .int xba, .long xbe])), (afp, .inl (cJ, 25, .inr (.inl xpr))), (afm, .inl (cJ, 9, .inr (.inl xmx))), (afs, .inl (cJ, 3, .inr (.inl xsd))), (aft, .inl (cJ, 4, .inr (.inl xpt))), (afq, .inr (1, [.long xfa, .long xfb]))]) rfl rfl rfl rfl hl.1 rfl (Nat.le_of_ble_eq_true rfl) dX0_misfitAbove_29 (fun H locs w => ?_)
        refine fr_callLV (As := [.int (f_X0_otherAt xba i2)]) (rest := [.long (xsd (Int32.toNatClampNeg i2)), .long i1]) C w kf_X0_partOf mw_20_3 (c_X0_partOf l D cI cJ af afp afm afs aft afq xfs xba xbe xpr xmx xsd xpt xfa xfb (f_X0_otherAt xba i2)) ⟨Nat.le_of_ble_eq_true rfl, Nat.le_of_ble_eq_true rfl⟩ ⟨Nat.le_refl 0, Nat.le_refl 0⟩ [0, 1, 2, 3, 4, 5] rfl rfl rfl (ws' := [(af, .inr (0, [.ref afp, .ref afm, .ref afs, .ref aft, .ref afq, .int xfs, .int xba, .long xbe])), (afp, .inl (cJ, 25, .inr (.inl xpr))), (afm, .inl (cJ, 9, .inr (.inl xmx))), (afs, .inl (cJ, 3, .inr (.inl xsd))), (aft, .inl (cJ, 4, .inr (.inl xpt))), (afq, .inr (1, [.long xfa, .long xfb]))]) rfl rfl rfl rfl hl.1 rfl (Nat.le_of_ble_eq_true rfl) dX0_misfitAbove_32 (fun H locs w => ?_)
        refine lv_lmul hx hb dX0_misfitAbove_35 ?_
        refine lv_lsub hx hb dX0_misfitAbove_36 ?_
        refine lv_lstore_n (lv' := [(1, .long (i1 - ((xsd (Int32.toNatClampNeg i2)) * (f_X0_partOf xpt (f_X0_otherAt xba i2))))), (0, .ref af), (3, .int i2)]) hx hb dX0_misfitAbove_37 rfl hl (by decide) rfl (fun ls hl => ?_)
        refine lv_iinc (v := i2 + 1) (lv' := [(3, .int (i2 + 1)), (1, .long (i1 - ((xsd (Int32.toNatClampNeg i2)) * (f_X0_partOf xpt (f_X0_otherAt xba i2))))), (0, .ref af)]) hx hb dX0_misfitAbove_38 hl (k := 2) rfl rfl (by decide) rfl (fun ls hl => ?_)
        refine lv_goto (tgt := 14) hx hb dX0_misfitAbove_41 (by decide) ?_
        exact ih14 (k14 + 1) (i1 - ((xsd (Int32.toNatClampNeg i2)) * (f_X0_partOf xpt (f_X0_otherAt xba i2)))) (i2 + 1) (by rw [hk14]; exact nI_1 k14) (by omega) (by omega) hr H locs w ls (lv_sub hl [2, 1, 0] rfl)
  exact LP14 4 0 (xbe * (f_X0_fromBase xba xpr 4 4)) 0 (by decide) (by omega) (by omega) hy14.symm H locs w ls (lv_sub hl [2, 1, 0] rfl)
def f_X0_solve (xpr : Nat → Int64) (xmx : Nat → Int64) (xsd : Nat → Int64) (xpt : Nat → Int64) (q1 : Int32) : Int32 × Int32 × Int64 × (Nat → Int64) × (Nat → Int64) × (Nat → Int64) × Int64 × Int64 := ((fun (z14_1 : (Nat → Int64) × (Nat → Int64)) => ((fun (z41_2 : Int64 × Int64) => (q1, (f_X0_firstOf q1), (f_X0_determinant z14_1.1), z14_1.1, z14_1.2, (f_X0_solveParts (f_X0_firstOf q1) (f_X0_determinant z14_1.1) z14_1.1 z14_1.2 xpt), z41_2.1, z41_2.2)) (f_X1_put (f_X0_misfitAbove (f_X0_firstOf q1) (f_X0_determinant z14_1.1) xpr z14_1.2 (f_X0_solveParts (f_X0_firstOf q1) (f_X0_determinant z14_1.1) z14_1.1 z14_1.2 xpt)) (f_X0_determinant z14_1.1)))) (f_X0_writeEquations q1 (f_X0_firstOf q1) xpr xmx xsd))
set_option maxRecDepth 100000 in
set_option maxHeartbeats 4000000 in
theorem c_X0_solve (l : Launch) (D : va_G) (cI cJ : ClassId) (af afp afm afs aft afq : Nat) (xfs : Int32) (xba : Int32) (xbe : Int64) (xpr : Nat → Int64) (xmx : Nat → Int64) (xsd : Nat → Int64) (xpt : Nat → Int64) (xfa : Int64) (xfb : Int64) (q1 : Int32) : CV l yX0_solve cX0_solve 2 3 D cI cJ [.ref af, .int q1] [(af, .inr (0, [.ref afp, .ref afm, .ref afs, .ref aft, .ref afq, .int xfs, .int xba, .long xbe])), (afp, .inl (cJ, 25, .inr (.inl xpr))), (afm, .inl (cJ, 9, .inr (.inl xmx))), (afs, .inl (cJ, 3, .inr (.inl xsd))), (aft, .inl (cJ, 4, .inr (.inl xpt))), (afq, .inr (1, [.long xfa, .long xfb]))] [(af, .inr (0, [.ref afp, .ref afm, .ref afs, .ref aft, .ref afq, .int ((f_X0_solve xpr xmx xsd xpt q1).1), .int ((f_X0_solve xpr xmx xsd xpt q1).2.1), .long ((f_X0_solve xpr xmx xsd xpt q1).2.2.1)])), (afp, .inl (cJ, 25, .inr (.inl xpr))), (afm, .inl (cJ, 9, .inr (.inl ((f_X0_solve xpr xmx xsd xpt q1).2.2.2.1)))), (afs, .inl (cJ, 3, .inr (.inl ((f_X0_solve xpr xmx xsd xpt q1).2.2.2.2.1)))), (aft, .inl (cJ, 4, .inr (.inl ((f_X0_solve xpr xmx xsd xpt q1).2.2.2.2.2.1)))), (afq, .inr (1, [.long ((f_X0_solve xpr xmx xsd xpt q1).2.2.2.2.2.2.1), .long ((f_X0_solve xpr xmx xsd xpt q1).2.2.2.2.2.2.2)]))] := by
  generalize hr : f_X0_solve xpr xmx xsd xpt q1 = r
  refine fr_entryV (by decide) rfl ?_
  intro p e s m args below meth c A Q H locs hQ C hret hlk w ls hl
  have hx := C.1
  have hb := C.2.1
  have hl : lv_has ls 2 [(0, .ref af), (1, .int q1)] := hl
  have hr : ((fun (z14_1 : (Nat → Int64) × (Nat → Int64)) => ((fun (z41_2 : Int64 × Int64) => (q1, (f_X0_firstOf q1), (f_X0_determinant z14_1.1), z14_1.1, z14_1.2, (f_X0_solveParts (f_X0_firstOf q1) (f_X0_determinant z14_1.1) z14_1.1 z14_1.2 xpt), z41_2.1, z41_2.2)) (f_X1_put (f_X0_misfitAbove (f_X0_firstOf q1) (f_X0_determinant z14_1.1) xpr z14_1.2 (f_X0_solveParts (f_X0_firstOf q1) (f_X0_determinant z14_1.1) z14_1.1 z14_1.2 xpt)) (f_X0_determinant z14_1.1)))) (f_X0_writeEquations q1 (f_X0_firstOf q1) xpr xmx xsd)) = r := hr
  refine lv_aload_n hx hb dX0_solve_0 rfl (lv_at hl 0 rfl) ?_
  refine lv_iload_n hx hb dX0_solve_1 rfl (lv_at hl 1 rfl) ?_
  refine fr_put C w fp_X0_37 0 rfl rfl rfl rfl (ws' := [(af, .inr (0, [.ref afp, .ref afm, .ref afs, .ref aft, .ref afq, .int q1, .int xba, .long xbe])), (afp, .inl (cJ, 25, .inr (.inl xpr))), (afm, .inl (cJ, 9, .inr (.inl xmx))), (afs, .inl (cJ, 3, .inr (.inl xsd))), (aft, .inl (cJ, 4, .inr (.inl xpt))), (afq, .inr (1, [.long xfa, .long xfb]))]) rfl dX0_solve_2 (fun H locs w => ?_)
  refine lv_aload_n hx hb dX0_solve_5 rfl (lv_at hl 0 rfl) ?_
  refine lv_iload_n hx hb dX0_solve_6 rfl (lv_at hl 1 rfl) ?_
  refine fr_callIS (As := [.int q1]) (rest := [.ref af]) C w kf_X0_firstOf mw_18_8 (c_X0_firstOf l D cI cJ q1) ⟨Nat.le_of_ble_eq_true rfl, Nat.le_of_ble_eq_true rfl⟩ ⟨Nat.le_refl 0, Nat.le_refl 0⟩ [] rfl rfl rfl (ws' := [(af, .inr (0, [.ref afp, .ref afm, .ref afs, .ref aft, .ref afq, .int q1, .int xba, .long xbe])), (afp, .inl (cJ, 25, .inr (.inl xpr))), (afm, .inl (cJ, 9, .inr (.inl xmx))), (afs, .inl (cJ, 3, .inr (.inl xsd))), (aft, .inl (cJ, 4, .inr (.inl xpt))), (afq, .inr (1, [.long xfa, .long xfb]))]) rfl rfl hl.1 rfl (Nat.le_of_ble_eq_true rfl) dX0_solve_7 (fun H locs w => ?_)
  refine fr_put C w fp_X0_45 0 rfl rfl rfl rfl (ws' := [(af, .inr (0, [.ref afp, .ref afm, .ref afs, .ref aft, .ref afq, .int q1, .int (f_X0_firstOf q1), .long xbe])), (afp, .inl (cJ, 25, .inr (.inl xpr))), (afm, .inl (cJ, 9, .inr (.inl xmx))), (afs, .inl (cJ, 3, .inr (.inl xsd))), (aft, .inl (cJ, 4, .inr (.inl xpt))), (afq, .inr (1, [.long xfa, .long xfb]))]) rfl dX0_solve_10 (fun H locs w => ?_)
  refine lv_aload_n hx hb dX0_solve_13 rfl (lv_at hl 0 rfl) ?_
  obtain ⟨z14_1, hz14_1⟩ : ∃ y, (f_X0_writeEquations q1 (f_X0_firstOf q1) xpr xmx xsd) = y := ⟨_, rfl⟩
  have hcz14_1 := c_X0_writeEquations l D cI cJ af afp afm afs aft afq q1 (f_X0_firstOf q1) xbe xpr xmx xsd xpt xfa xfb
  rw [hz14_1] at hcz14_1
  have hr : ((fun (z41_2 : Int64 × Int64) => (q1, (f_X0_firstOf q1), (f_X0_determinant z14_1.1), z14_1.1, z14_1.2, (f_X0_solveParts (f_X0_firstOf q1) (f_X0_determinant z14_1.1) z14_1.1 z14_1.2 xpt), z41_2.1, z41_2.2)) (f_X1_put (f_X0_misfitAbove (f_X0_firstOf q1) (f_X0_determinant z14_1.1) xpr z14_1.2 (f_X0_solveParts (f_X0_firstOf q1) (f_X0_determinant z14_1.1) z14_1.1 z14_1.2 xpt)) (f_X0_determinant z14_1.1))) = r := by subst hz14_1; exact hr
  refine fr_callVV (As := []) (rest := []) C w kf_X0_writeEquations mw_18_11 (hcz14_1) ⟨Nat.le_of_ble_eq_true rfl, Nat.le_of_ble_eq_true rfl⟩ ⟨Nat.le_refl 0, Nat.le_refl 0⟩ [0, 1, 2, 3, 4, 5] rfl rfl rfl (ws' := [(af, .inr (0, [.ref afp, .ref afm, .ref afs, .ref aft, .ref afq, .int q1, .int (f_X0_firstOf q1), .long xbe])), (afp, .inl (cJ, 25, .inr (.inl xpr))), (afm, .inl (cJ, 9, .inr (.inl z14_1.1))), (afs, .inl (cJ, 3, .inr (.inl z14_1.2))), (aft, .inl (cJ, 4, .inr (.inl xpt))), (afq, .inr (1, [.long xfa, .long xfb]))]) rfl rfl rfl rfl hl.1 rfl (Nat.le_of_ble_eq_true rfl) dX0_solve_14 (fun H locs w => ?_)
  refine lv_aload_n hx hb dX0_solve_17 rfl (lv_at hl 0 rfl) ?_
  refine lv_aload_n hx hb dX0_solve_18 rfl (lv_at hl 0 rfl) ?_
  refine fr_callLV (As := []) (rest := [.ref af]) C w kf_X0_determinant mw_19_3 (c_X0_determinant l D cI cJ af afp afm afs aft afq q1 (f_X0_firstOf q1) xbe xpr z14_1.1 z14_1.2 xpt xfa xfb) ⟨Nat.le_of_ble_eq_true rfl, Nat.le_of_ble_eq_true rfl⟩ ⟨Nat.le_refl 0, Nat.le_refl 0⟩ [0, 1, 2, 3, 4, 5] rfl rfl rfl (ws' := [(af, .inr (0, [.ref afp, .ref afm, .ref afs, .ref aft, .ref afq, .int q1, .int (f_X0_firstOf q1), .long xbe])), (afp, .inl (cJ, 25, .inr (.inl xpr))), (afm, .inl (cJ, 9, .inr (.inl z14_1.1))), (afs, .inl (cJ, 3, .inr (.inl z14_1.2))), (aft, .inl (cJ, 4, .inr (.inl xpt))), (afq, .inr (1, [.long xfa, .long xfb]))]) rfl rfl rfl rfl hl.1 rfl (Nat.le_of_ble_eq_true rfl) dX0_solve_19 (fun H locs w => ?_)
  refine fr_put C w fp_X0_55 0 rfl rfl rfl rfl (ws' := [(af, .inr (0, [.ref afp, .ref afm, .ref afs, .ref aft, .ref afq, .int q1, .int (f_X0_firstOf q1), .long (f_X0_determinant z14_1.1)])), (afp, .inl (cJ, 25, .inr (.inl xpr))), (afm, .inl (cJ, 9, .inr (.inl z14_1.1))), (afs, .inl (cJ, 3, .inr (.inl z14_1.2))), (aft, .inl (cJ, 4, .inr (.inl xpt))), (afq, .inr (1, [.long xfa, .long xfb]))]) rfl dX0_solve_22 (fun H locs w => ?_)
  refine lv_aload_n hx hb dX0_solve_25 rfl (lv_at hl 0 rfl) ?_
  refine fr_callVV (As := []) (rest := []) C w kf_X0_solveParts mw_19_15 (c_X0_solveParts l D cI cJ af afp afm afs aft afq q1 (f_X0_firstOf q1) (f_X0_determinant z14_1.1) xpr z14_1.1 z14_1.2 xpt xfa xfb) ⟨Nat.le_of_ble_eq_true rfl, Nat.le_of_ble_eq_true rfl⟩ ⟨Nat.le_refl 0, Nat.le_refl 0⟩ [0, 1, 2, 3, 4, 5] rfl rfl rfl (ws' := [(af, .inr (0, [.ref afp, .ref afm, .ref afs, .ref aft, .ref afq, .int q1, .int (f_X0_firstOf q1), .long (f_X0_determinant z14_1.1)])), (afp, .inl (cJ, 25, .inr (.inl xpr))), (afm, .inl (cJ, 9, .inr (.inl z14_1.1))), (afs, .inl (cJ, 3, .inr (.inl z14_1.2))), (aft, .inl (cJ, 4, .inr (.inl (f_X0_solveParts (f_X0_firstOf q1) (f_X0_determinant z14_1.1) z14_1.1 z14_1.2 xpt)))), (afq, .inr (1, [.long xfa, .long xfb]))]) rfl rfl rfl rfl hl.1 rfl (Nat.le_of_ble_eq_true rfl) dX0_solve_26 (fun H locs w => ?_)
  refine lv_aload_n hx hb dX0_solve_29 rfl (lv_at hl 0 rfl) ?_
  refine fr_get C w fg_X0_27 0 rfl rfl dX0_solve_30 ?_
  refine lv_aload_n hx hb dX0_solve_33 rfl (lv_at hl 0 rfl) ?_
  refine fr_callLV (As := []) (rest := [.ref afq]) C w kf_X0_misfitAbove mw_19_23 (c_X0_misfitAbove l D cI cJ af afp afm afs aft afq q1 (f_X0_firstOf q1) (f_X0_determinant z14_1.1) xpr z14_1.1 z14_1.2 (f_X0_solveParts (f_X0_firstOf q1) (f_X0_determinant z14_1.1) z14_1.1 z14_1.2 xpt) xfa xfb) ⟨Nat.le_of_ble_eq_true rfl, Nat.le_of_ble_eq_true rfl⟩ ⟨Nat.le_refl 0, Nat.le_refl 0⟩ [0, 1, 2, 3, 4, 5] rfl rfl rfl (ws' := [(af, .inr (0, [.ref afp, .ref afm, .ref afs, .ref aft, .ref afq, .int q1, .int (f_X0_firstOf q1), .long (f_X0_determinant z14_1.1)])), (afp, .inl (cJ, 25, .inr (.inl xpr))), (afm, .inl (cJ, 9, .inr (.inl z14_1.1))), (afs, .inl (cJ, 3, .inr (.inl z14_1.2))), (aft, .inl (cJ, 4, .inr (.inl (f_X0_solveParts (f_X0_firstOf q1) (f_X0_determinant z14_1.1) z14_1.1 z14_1.2 xpt)))), (afq, .inr (1, [.long xfa, .long xfb]))]) rfl rfl rfl rfl hl.1 rfl (Nat.le_of_ble_eq_true rfl) dX0_solve_34 (fun H locs w => ?_)
  refine lv_aload_n hx hb dX0_solve_37 rfl (lv_at hl 0 rfl) ?_
  refine fr_get C w fg_X0_55 0 rfl rfl dX0_solve_38 ?_
  obtain ⟨z41_2, hz41_2⟩ : ∃ y, (f_X1_put (f_X0_misfitAbove (f_X0_firstOf q1) (f_X0_determinant z14_1.1) xpr z14_1.2 (f_X0_solveParts (f_X0_firstOf q1) (f_X0_determinant z14_1.1) z14_1.1 z14_1.2 xpt)) (f_X0_determinant z14_1.1)) = y := ⟨_, rfl⟩
  have hcz41_2 := c_X1_put l D cI cJ afq xfa xfb (f_X0_misfitAbove (f_X0_firstOf q1) (f_X0_determinant z14_1.1) xpr z14_1.2 (f_X0_solveParts (f_X0_firstOf q1) (f_X0_determinant z14_1.1) z14_1.1 z14_1.2 xpt)) (f_X0_determinant z14_1.1)
  rw [hz41_2] at hcz41_2
  have hr : (q1, (f_X0_firstOf q1), (f_X0_determinant z14_1.1), z14_1.1, z14_1.2, (f_X0_solveParts (f_X0_firstOf q1) (f_X0_determinant z14_1.1) z14_1.1 z14_1.2 xpt), z41_2.1, z41_2.2) = r := by subst hz41_2; exact hr
  refine fr_callVV (As := [.long (f_X0_misfitAbove (f_X0_firstOf q1) (f_X0_determinant z14_1.1) xpr z14_1.2 (f_X0_solveParts (f_X0_firstOf q1) (f_X0_determinant z14_1.1) z14_1.1 z14_1.2 xpt)), .long (f_X0_determinant z14_1.1)]) (rest := []) C w kf_X1_put mw_20_7 (hcz41_2) ⟨Nat.le_of_ble_eq_true rfl, Nat.le_of_ble_eq_true rfl⟩ ⟨Nat.le_refl 0, Nat.le_refl 0⟩ [5] rfl rfl rfl (ws' := [(af, .inr (0, [.ref afp, .ref afm, .ref afs, .ref aft, .ref afq, .int q1, .int (f_X0_firstOf q1), .long (f_X0_determinant z14_1.1)])), (afp, .inl (cJ, 25, .inr (.inl xpr))), (afm, .inl (cJ, 9, .inr (.inl z14_1.1))), (afs, .inl (cJ, 3, .inr (.inl z14_1.2))), (aft, .inl (cJ, 4, .inr (.inl (f_X0_solveParts (f_X0_firstOf q1) (f_X0_determinant z14_1.1) z14_1.1 z14_1.2 xpt)))), (afq, .inr (1, [.long z41_2.1, .long z41_2.2]))]) rfl rfl rfl rfl hl.1 rfl (Nat.le_of_ble_eq_true rfl) dX0_solve_41 (fun H locs w => ?_)
  subst hr hQ
  exact fr_vret C hret hlk w rfl dX0_solve_44
