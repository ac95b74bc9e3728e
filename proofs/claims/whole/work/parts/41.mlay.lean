theorem mw_4_15 : Cond.fieldLink RX7 25 "MudSharesModel" "memberAt" "[I" ∈ wsL_law := ck_4 _ (List.mem_of_getElem? (i := 15) rfl)
theorem mw_4_17 : Cond.fieldLink RX7 32 "MudSharesModel" "pairs" "[J" ∈ wsL_law := ck_4 _ (List.mem_of_getElem? (i := 17) rfl)
theorem mw_4_18 : Cond.fieldLink RX7 35 "MudSharesModel" "goals" "[J" ∈ wsL_law := ck_4 _ (List.mem_of_getElem? (i := 18) rfl)
theorem mw_23_3 : Cond.fieldLink RX7 121 "MudSharesModel" "many" "I" ∈ wsL_law := ck_23 _ (List.mem_of_getElem? (i := 3) rfl)
theorem mw_23_8 : Cond.methodLink RX7 124 yX7_apart ∈ wsL_law := ck_23 _ (List.mem_of_getElem? (i := 8) rfl)
theorem mw_23_11 : Cond.code yX7_apart cX7_apart 3 (some .long) ∈ wsL_law := ck_23 _ (List.mem_of_getElem? (i := 11) rfl)
theorem mw_23_9 : Cond.instanceMethod yX7_apart ∈ wsL_law := ck_23 _ (List.mem_of_getElem? (i := 9) rfl)
theorem mw_23_10 : Cond.selects RX7 yX7_apart yX7_apart ∈ wsL_law := ck_23 _ (List.mem_of_getElem? (i := 10) rfl)
theorem mw_23_12 : Cond.methodLink RX7 127 yX7_short0 ∈ wsL_law := ck_23 _ (List.mem_of_getElem? (i := 12) rfl)
theorem mw_23_15 : Cond.code yX7_short0 cX7_short0 2 (some .long) ∈ wsL_law := ck_23 _ (List.mem_of_getElem? (i := 15) rfl)
theorem mw_23_13 : Cond.instanceMethod yX7_short0 ∈ wsL_law := ck_23 _ (List.mem_of_getElem? (i := 13) rfl)
theorem mw_23_14 : Cond.selects RX7 yX7_short0 yX7_short0 ∈ wsL_law := ck_23 _ (List.mem_of_getElem? (i := 14) rfl)
theorem mw_23_20 : Cond.methodLink RX7 131 yX7_cell ∈ wsL_law := ck_23 _ (List.mem_of_getElem? (i := 20) rfl)
theorem mw_23_23 : Cond.code yX7_cell cX7_cell 4 (some .long) ∈ wsL_law := ck_23 _ (List.mem_of_getElem? (i := 23) rfl)
theorem mw_23_21 : Cond.instanceMethod yX7_cell ∈ wsL_law := ck_23 _ (List.mem_of_getElem? (i := 21) rfl)
theorem mw_23_22 : Cond.selects RX7 yX7_cell yX7_cell ∈ wsL_law := ck_23 _ (List.mem_of_getElem? (i := 22) rfl)
theorem fg_X7_25 : FG RX7 25 7 16 := ⟨RX7, TX7, 25, rfl, by decide, inlX7, mw_4_15⟩
theorem fg_X7_32 : FG RX7 32 7 20 := ⟨RX7, TX7, 25, rfl, by decide, inlX7, mw_4_17⟩
theorem fg_X7_35 : FG RX7 35 7 21 := ⟨RX7, TX7, 25, rfl, by decide, inlX7, mw_4_18⟩
theorem fg_X7_121 : FG RX7 121 7 15 := ⟨RX7, TX7, 25, rfl, by decide, inlX7, mw_23_3⟩
theorem kf_X7_apart : KV RX7 yX7_apart cX7_apart 3 (some .long) 2 := ⟨mw_23_11, mw_23_9, mw_23_10, mw_1_5, by decide, by decide, by decide +kernel⟩
theorem kf_X7_short0 : KV RX7 yX7_short0 cX7_short0 2 (some .long) 1 := ⟨mw_23_15, mw_23_13, mw_23_14, mw_1_5, by decide, by decide, by decide +kernel⟩
theorem kf_X7_cell : KV RX7 yX7_cell cX7_cell 4 (some .long) 3 := ⟨mw_23_23, mw_23_21, mw_23_22, mw_1_5, by decide, by decide, by decide +kernel⟩
def f_X7_apart (mam : Nat → Int32) (mmb : Nat → Int32) (q1 : Int32) (q2 : Int32) : Int64 := (Int32.toInt64 ((mam (Int32.toNatClampNeg ((4 * (mmb (Int32.toNatClampNeg q1))) + q2))) - (mam (Int32.toNatClampNeg ((4 * (mmb (Int32.toNatClampNeg 0))) + q2)))))
set_option maxRecDepth 100000 in
set_option maxHeartbeats 4000000 in
theorem c_X7_apart (l : Launch) (D : va_G) (cI cJ : ClassId) (am ama amb amc amd ame amf amg amp amo : Nat) (mpl : Int32) (msc : Int32) (mtc : Int32) (msr : Int32) (mal : Int32) (mns : Int32) (mnn : Int32) (mnt : Int32) (mfi : Int32) (mnw : Int32) (mmy : Int32) (mbe : Int64) (mmf : Int64) (mbs : Int32) (mco : Int32) (mh : Int64) (mpg : Nat → Int32) (mam : Nat → Int32) (mwa : Nat → Int32) (mww : Nat → Int32) (mna : Nat → Int32) (mmb : Nat → Int32) (msh : Nat → Int64) (mpa : Nat → Int64) (mgo : Nat → Int64) (q1 : Int32) (q2 : Int32) (hmb : MB mmb) (hq1 : L4 q1) (hq2 : L4 q2) : CL l yX7_apart cX7_apart 3 0 D cI cJ [.ref am, .int q1, .int q2] [(am, .inr (7, [.int mpl, .ref ama, .int msc, .int mtc, .ref amb, .ref amc, .ref amd, .int msr, .int mal, .int mns, .int mnn, .int mnt, .int mfi, .int mnw, .ref ame, .int mmy, .ref amf, .long mbe, .ref amg, .long mmf, .ref amp, .ref amo, .int mbs, .int mco, .long mh])), (ama, .inl (cI, 47, .inl mpg)), (amb, .inl (cI, 16, .inl mam)), (amc, .inl (cI, 4, .inl mwa)), (amd, .inl (cI, 4, .inl mww)), (ame, .inl (cI, 16, .inl mna)), (amf, .inl (cI, 4, .inl mmb)), (amg, .inl (cJ, 4, .inr (.inl msh))), (amp, .inl (cJ, 9, .inr (.inl mpa))), (amo, .inl (cJ, 3, .inr (.inl mgo)))] [(am, .inr (7, [.int mpl, .ref ama, .int msc, .int mtc, .ref amb, .ref amc, .ref amd, .int msr, .int mal, .int mns, .int mnn, .int mnt, .int mfi, .int mnw, .ref ame, .int mmy, .ref amf, .long mbe, .ref amg, .long mmf, .ref amp, .ref amo, .int mbs, .int mco, .long mh])), (ama, .inl (cI, 47, .inl mpg)), (amb, .inl (cI, 16, .inl mam)), (amc, .inl (cI, 4, .inl mwa)), (amd, .inl (cI, 4, .inl mww)), (ame, .inl (cI, 16, .inl mna)), (amf, .inl (cI, 4, .inl mmb)), (amg, .inl (cJ, 4, .inr (.inl msh))), (amp, .inl (cJ, 9, .inr (.inl mpa))), (amo, .inl (cJ, 3, .inr (.inl mgo)))] (f_X7_apart mam mmb q1 q2) := by
  generalize hr : f_X7_apart mam mmb q1 q2 = r
  refine fr_entryL (by decide) rfl ?_
  intro p e s m args below meth c A Q H locs hQ C hret hlk w ls hl
  have hx := C.1
  have hb := C.2.1
  have hl : lv_has ls 3 [(0, .ref am), (1, .int q1), (2, .int q2)] := hl
  have hr : (Int32.toInt64 ((mam (Int32.toNatClampNeg ((4 * (mmb (Int32.toNatClampNeg q1))) + q2))) - (mam (Int32.toNatClampNeg ((4 * (mmb (Int32.toNatClampNeg 0))) + q2))))) = r := hr
  refine lv_aload_n hx hb dX7_apart_0 rfl (lv_at hl 0 rfl) ?_
  refine fr_get C w fg_X7_13 0 rfl rfl dX7_apart_1 ?_
  refine lv_iconst (v := 4) hx hb dX7_apart_4 (by decide) ?_
  refine lv_aload_n hx hb dX7_apart_5 rfl (lv_at hl 0 rfl) ?_
  refine fr_get C w fg_X7_25 0 rfl rfl dX7_apart_6 ?_
  refine lv_iload_n hx hb dX7_apart_9 rfl (lv_at hl 1 rfl) ?_
  refine fr_iald C w 6 rfl hq1.vi dX7_apart_10 ?_
  refine lv_imul hx hb dX7_apart_11 ?_
  refine lv_iload_n hx hb dX7_apart_12 rfl (lv_at hl 2 rfl) ?_
  refine lv_iadd hx hb dX7_apart_13 ?_
  refine fr_iald C w 2 rfl (vi_4 (hmb _) hq2) dX7_apart_14 ?_
  refine lv_aload_n hx hb dX7_apart_15 rfl (lv_at hl 0 rfl) ?_
  refine fr_get C w fg_X7_13 0 rfl rfl dX7_apart_16 ?_
  refine lv_iconst (v := 4) hx hb dX7_apart_19 (by decide) ?_
  refine lv_aload_n hx hb dX7_apart_20 rfl (lv_at hl 0 rfl) ?_
  refine fr_get C w fg_X7_25 0 rfl rfl dX7_apart_21 ?_
  refine lv_iconst (v := 0) hx hb dX7_apart_24 (by decide) ?_
  refine fr_iald C w 6 rfl vi_00 dX7_apart_25 ?_
  refine lv_imul hx hb dX7_apart_26 ?_
  refine lv_iload_n hx hb dX7_apart_27 rfl (lv_at hl 2 rfl) ?_
  refine lv_iadd hx hb dX7_apart_28 ?_
  refine fr_iald C w 2 rfl (vi_4 (hmb _) hq2) dX7_apart_29 ?_
  refine lv_isub hx hb dX7_apart_30 ?_
  refine lv_i2l (v := (Int32.toInt64 ((mam (Int32.toNatClampNeg ((4 * (mmb (Int32.toNatClampNeg q1))) + q2))) - (mam (Int32.toNatClampNeg ((4 * (mmb (Int32.toNatClampNeg 0))) + q2)))))) hx hb dX7_apart_31 rfl ?_
  subst hr hQ
  exact fr_lret C hret hlk w rfl rfl dX7_apart_32
def f_X7_short0 (mam : Nat → Int32) (mwa : Nat → Int32) (mmb : Nat → Int32) (q1 : Int32) : Int64 := (Int32.toInt64 ((mwa (Int32.toNatClampNeg q1)) - (mam (Int32.toNatClampNeg ((4 * (mmb (Int32.toNatClampNeg 0))) + q1)))))
set_option maxRecDepth 100000 in
set_option maxHeartbeats 4000000 in
theorem c_X7_short0 (l : Launch) (D : va_G) (cI cJ : ClassId) (am ama amb amc amd ame amf amg amp amo : Nat) (mpl : Int32) (msc : Int32) (mtc : Int32) (msr : Int32) (mal : Int32) (mns : Int32) (mnn : Int32) (mnt : Int32) (mfi : Int32) (mnw : Int32) (mmy : Int32) (mbe : Int64) (mmf : Int64) (mbs : Int32) (mco : Int32) (mh : Int64) (mpg : Nat → Int32) (mam : Nat → Int32) (mwa : Nat → Int32) (mww : Nat → Int32) (mna : Nat → Int32) (mmb : Nat → Int32) (msh : Nat → Int64) (mpa : Nat → Int64) (mgo : Nat → Int64) (q1 : Int32) (hmb : MB mmb) (hq1 : L4 q1) : CL l yX7_short0 cX7_short0 2 0 D cI cJ [.ref am, .int q1] [(am, .inr (7, [.int mpl, .ref ama, .int msc, .int mtc, .ref amb, .ref amc, .ref amd, .int msr, .int mal, .int mns, .int mnn, .int mnt, .int mfi, .int mnw, .ref ame, .int mmy, .ref amf, .long mbe, .ref amg, .long mmf, .ref amp, .ref amo, .int mbs, .int mco, .long mh])), (ama, .inl (cI, 47, .inl mpg)), (amb, .inl (cI, 16, .inl mam)), (amc, .inl (cI, 4, .inl mwa)), (amd, .inl (cI, 4, .inl mww)), (ame, .inl (cI, 16, .inl mna)), (amf, .inl (cI, 4, .inl mmb)), (amg, .inl (cJ, 4, .inr (.inl msh))), (amp, .inl (cJ, 9, .inr (.inl mpa))), (amo, .inl (cJ, 3, .inr (.inl mgo)))] [(am, .inr (7, [.int mpl, .ref ama, .int msc, .int mtc, .ref amb, .ref amc, .ref amd, .int msr, .int mal, .int mns, .int mnn, .int mnt, .int mfi, .int mnw, .ref ame, .int mmy, .ref amf, .long mbe, .ref amg, .long mmf, .ref amp, .ref amo, .int mbs, .int mco, .long mh])), (ama, .inl (cI, 47, .inl mpg)), (amb, .inl (cI, 16, .inl mam)), (amc, .inl (cI, 4, .inl mwa)), (amd, .inl (cI, 4, .inl mww)), (ame, .inl (cI, 16, .inl mna)), (amf, .inl (cI, 4, .inl mmb)), (amg, .inl (cJ, 4, .inr (.inl msh))), (amp, .inl (cJ, 9, .inr (.inl mpa))), (amo, .inl (cJ, 3, .inr (.inl mgo)))] (f_X7_short0 mam mwa mmb q1) := by
  generalize hr : f_X7_short0 mam mwa mmb q1 = r
  refine fr_entryL (by decide) rfl ?_
  intro p e s m args below meth c A Q H locs hQ C hret hlk w ls hl
  have hx := C.1
  have hb := C.2.1
  have hl : lv_has ls 2 [(0, .ref am), (1, .int q1)] := hl
  have hr : (Int32.toInt64 ((mwa (Int32.toNatClampNeg q1)) - (mam (Int32.toNatClampNeg ((4 * (mmb (Int32.toNatClampNeg 0))) + q1))))) = r := hr
  refine lv_aload_n hx hb dX7_short0_0 rfl (lv_at hl 0 rfl) ?_
  refine fr_get C w fg_X7_16 0 rfl rfl dX7_short0_1 ?_
  refine lv_iload_n hx hb dX7_short0_4 rfl (lv_at hl 1 rfl) ?_
  refine fr_iald C w 3 rfl hq1.vi dX7_short0_5 ?_
  refine lv_aload_n hx hb dX7_short0_6 rfl (lv_at hl 0 rfl) ?_
  refine fr_get C w fg_X7_13 0 rfl rfl dX7_short0_7 ?_
  refine lv_iconst (v := 4) hx hb dX7_short0_10 (by decide) ?_
  refine lv_aload_n hx hb dX7_short0_11 rfl (lv_at hl 0 rfl) ?_
  refine fr_get C w fg_X7_25 0 rfl rfl dX7_short0_12 ?_
  refine lv_iconst (v := 0) hx hb dX7_short0_15 (by decide) ?_
  refine fr_iald C w 6 rfl vi_00 dX7_short0_16 ?_
  refine lv_imul hx hb dX7_short0_17 ?_
  refine lv_iload_n hx hb dX7_short0_18 rfl (lv_at hl 1 rfl) ?_
  refine lv_iadd hx hb dX7_short0_19 ?_
  refine fr_iald C w 2 rfl (vi_4 (hmb _) hq1) dX7_short0_20 ?_
  refine lv_isub hx hb dX7_short0_21 ?_
  refine lv_i2l (v := (Int32.toInt64 ((mwa (Int32.toNatClampNeg q1)) - (mam (Int32.toNatClampNeg ((4 * (mmb (Int32.toNatClampNeg 0))) + q1)))))) hx hb dX7_short0_22 rfl ?_
  subst hr hQ
  exact fr_lret C hret hlk w rfl rfl dX7_short0_23
def L_X7_layPairs_2  : Nat → Int32 → (Nat → Int64) → Int32 × (Nat → Int64)
  | 0, _, _ => (0, fun _ => 0)
  | n2 + 1, i1, w2 => (if 9 ≤ i1 then (i1, w2) else ((fun (v5 : Int64) => L_X7_layPairs_2  n2 (i1 + 1) (vp_updL w2 (Int32.toNatClampNeg i1) v5)) (if (i1 / 3) = (i1 - i1 / 3 * 3) then 1 else 0)))
def L_X7_layPairs_79 (mtc : Int32) (mmy : Int32) (mam : Nat → Int32) (mwa : Nat → Int32) (mww : Nat → Int32) (mmb : Nat → Int32) (us : Int32) (i7 : Int32) (i11 : Int32) : Nat → Int32 → (Nat → Int64) → (Nat → Int64) → Int32 × (Nat → Int64) × (Nat → Int64)
  | 0, _, _, _ => (0, fun _ => 0, fun _ => 0)
  | n79 + 1, i16, w17, w18 => (if mtc ≤ i16 then (i16, w17, w18) else ((fun (v21 : Int64) => ((fun (v23 : Int64) => ((fun (v25 : Int64) => L_X7_layPairs_79 mtc mmy mam mwa mww mmb us i7 i11 n79 (i16 + 1) (vp_updL w17 (Int32.toNatClampNeg ((3 * i7) + i11)) ((w17 (Int32.toNatClampNeg ((3 * i7) + i11))) + v23)) (vp_updL w18 (Int32.toNatClampNeg i7) ((w18 (Int32.toNatClampNeg i7)) + v25))) (if i11 = 0 then v21 * (f_X7_short0 mam mwa mmb i16) else 0))) (if mmy ≤ (i11 + 1) then 0 else v21 * (f_X7_apart mam mmb (i11 + 1) i16)))) (if (f_X7_hasBit us i16) = 0 then 0 else (Int32.toInt64 (mww (Int32.toNatClampNeg i16))) * (f_X7_apart mam mmb (i7 + 1) i16))))
def L_X7_layPairs_50 (mtc : Int32) (mmy : Int32) (mam : Nat → Int32) (mwa : Nat → Int32) (mww : Nat → Int32) (mmb : Nat → Int32) (us : Int32) (i7 : Int32) : Nat → Int32 → (Nat → Int64) → (Nat → Int64) → Int32 × (Nat → Int64) × (Nat → Int64)
  | 0, _, _, _ => (0, fun _ => 0, fun _ => 0)
  | n50 + 1, i11, w12, w13 => (if 3 ≤ i11 then (i11, w12, w13) else (if mmy ≤ (i7 + 1) then (i11, w12, w13) else ((fun (y79 : Int32 × (Nat → Int64) × (Nat → Int64)) => L_X7_layPairs_50 mtc mmy mam mwa mww mmb us i7 n50 (i11 + 1) y79.2.1 y79.2.2) (L_X7_layPairs_79 mtc mmy mam mwa mww mmb us i7 i11 5 0 (vp_updL w12 (Int32.toNatClampNeg ((3 * i7) + i11)) 0) w13))))
def L_X7_layPairs_36 (mtc : Int32) (mmy : Int32) (mam : Nat → Int32) (mwa : Nat → Int32) (mww : Nat → Int32) (mmb : Nat → Int32) (us : Int32) : Nat → Int32 → (Nat → Int64) → (Nat → Int64) → Int32 × (Nat → Int64) × (Nat → Int64)
  | 0, _, _, _ => (0, fun _ => 0, fun _ => 0)
  | n36 + 1, i7, w8, w9 => (if 3 ≤ i7 then (i7, w8, w9) else ((fun (y50 : Int32 × (Nat → Int64) × (Nat → Int64)) => L_X7_layPairs_36 mtc mmy mam mwa mww mmb us n36 (i7 + 1) y50.2.1 y50.2.2) (L_X7_layPairs_50 mtc mmy mam mwa mww mmb us i7 4 0 w8 (vp_updL w9 (Int32.toNatClampNeg i7) 0))))
def f_X7_layPairs (mtc : Int32) (mmy : Int32) (mam : Nat → Int32) (mwa : Nat → Int32) (mww : Nat → Int32) (mmb : Nat → Int32) (mpa : Nat → Int64) (mgo : Nat → Int64) (us : Int32) : (Nat → Int64) × (Nat → Int64) := ((fun (y2 : Int32 × (Nat → Int64)) => ((fun (y36 : Int32 × (Nat → Int64) × (Nat → Int64)) => (y36.2.1, y36.2.2)) (L_X7_layPairs_36 mtc mmy mam mwa mww mmb us 4 0 y2.2 mgo))) (L_X7_layPairs_2 10 0 mpa))
set_option maxRecDepth 100000 in
set_option maxHeartbeats 4000000 in
theorem c_X7_layPairs (l : Launch) (D : va_G) (cI cJ : ClassId) (am ama amb amc amd ame amf amg amp amo : Nat) (mpl : Int32) (msc : Int32) (mtc : Int32) (msr : Int32) (mal : Int32) (mns : Int32) (mnn : Int32) (mnt : Int32) (mfi : Int32) (mnw : Int32) (mmy : Int32) (mbe : Int64) (mmf : Int64) (mbs : Int32) (mco : Int32) (mh : Int64) (mpg : Nat → Int32) (mam : Nat → Int32) (mwa : Nat → Int32) (mww : Nat → Int32) (mna : Nat → Int32) (mmb : Nat → Int32) (msh : Nat → Int64) (mpa : Nat → Int64) (mgo : Nat → Int64) (us : Int32) (hmb : MB mmb) (hmt : LE4 mtc) : CV l yX7_layPairs cX7_layPairs 7 1 D cI cJ [.ref am, .int us] [(am, .inr (7, [.int mpl, .ref ama, .int msc, .int mtc, .ref amb, .ref amc, .ref amd, .int msr, .int mal, .int mns, .int mnn, .int mnt, .int mfi, .int mnw, .ref ame, .int mmy, .ref amf, .long mbe, .ref amg, .long mmf, .ref amp, .ref amo, .int mbs, .int mco, .long mh])), (ama, .inl (cI, 47, .inl mpg)), (amb, .inl (cI, 16, .inl mam)), (amc, .inl (cI, 4, .inl mwa)), (amd, .inl (cI, 4, .inl mww)), (ame, .inl (cI, 16, .inl mna)), (amf, .inl (cI, 4, .inl mmb)), (amg, .inl (cJ, 4, .inr (.inl msh))), (amp, .inl (cJ, 9, .inr (.inl mpa))), (amo, .inl (cJ, 3, .inr (.inl mgo)))] [(am, .inr (7, [.int mpl, .ref ama, .int msc, .int mtc, .ref amb, .ref amc, .ref amd, .int msr, .int mal, .int mns, .int mnn, .int mnt, .int mfi, .int mnw, .ref ame, .int mmy, .ref amf, .long mbe, .ref amg, .long mmf, .ref amp, .ref amo, .int mbs, .int mco, .long mh])), (ama, .inl (cI, 47, .inl mpg)), (amb, .inl (cI, 16, .inl mam)), (amc, .inl (cI, 4, .inl mwa)), (amd, .inl (cI, 4, .inl mww)), (ame, .inl (cI, 16, .inl mna)), (amf, .inl (cI, 4, .inl mmb)), (amg, .inl (cJ, 4, .inr (.inl msh))), (amp, .inl (cJ, 9, .inr (.inl ((f_X7_layPairs mtc mmy mam mwa mww mmb mpa mgo us).1)))), (amo, .inl (cJ, 3, .inr (.inl ((f_X7_layPairs mtc mmy mam mwa mww mmb mpa mgo us).2))))] := by
  generalize hr : f_X7_layPairs mtc mmy mam mwa mww mmb mpa mgo us = r
  obtain ⟨nmt, hmt1, hmt2⟩ := id hmt
  refine fr_entryV (by decide) rfl ?_
  intro p e s m args below meth c A Q H locs hQ C hret hlk w ls hl
  have hx := C.1
  have hb := C.2.1
  have hl : lv_has ls 7 [(0, .ref am), (1, .int us)] := hl
  have hr : ((fun (y2 : Int32 × (Nat → Int64)) => ((fun (y36 : Int32 × (Nat → Int64) × (Nat → Int64)) => (y36.2.1, y36.2.2)) (L_X7_layPairs_36 mtc mmy mam mwa mww mmb us 4 0 y2.2 mgo))) (L_X7_layPairs_2 10 0 mpa)) = r := hr
  refine lv_iconst (v := 0) hx hb dX7_layPairs_0 (by decide) ?_
  refine lv_istore_n (lv' := [(2, .int 0), (0, .ref am), (1, .int us)]) hx hb dX7_layPairs_1 rfl hl (by decide) rfl (fun ls hl => ?_)
  obtain ⟨y2, hy2⟩ : ∃ y, y = L_X7_layPairs_2 10 0 mpa := ⟨_, rfl⟩
  have hr : ((fun (y36 : Int32 × (Nat → Int64) × (Nat → Int64)) => (y36.2.1, y36.2.2)) (L_X7_layPairs_36 mtc mmy mam mwa mww mmb us 4 0 y2.2 mgo)) = r := by rw [hy2]; exact hr
  have X2 : ∀ (H : Heap) (locs : List Loc), Wd D A s.heap H locs [(am, .inr (7, [.int mpl, .ref ama, .int msc, .int mtc, .ref amb, .ref amc, .ref amd, .int msr, .int mal, .int mns, .int mnn, .int mnt, .int mfi, .int mnw, .ref ame, .int mmy, .ref amf, .long mbe, .ref amg, .long mmf, .ref amp, .ref amo, .int mbs, .int mco, .long mh])), (ama, .inl (cI, 47, .inl mpg)), (amb, .inl (cI, 16, .inl mam)), (amc, .inl (cI, 4, .inl mwa)), (amd, .inl (cI, 4, .inl mww)), (ame, .inl (cI, 16, .inl mna)), (amf, .inl (cI, 4, .inl mmb)), (amg, .inl (cJ, 4, .inr (.inl msh))), (amp, .inl (cJ, 9, .inr (.inl y2.2))), (amo, .inl (cJ, 3, .inr (.inl mgo)))] → ∀ (ls : Array Slot), lv_has ls 7 [(0, .ref am), (1, .int us), (2, .int y2.1)] → W p l e (rl 1) s m args below meth c H locs 0 0 Q (F0 m 34 ls []) := by
    intro H locs w ls hl
    refine lv_iconst (v := 0) hx hb dX7_layPairs_34 (by decide) ?_
    refine lv_istore_n (lv' := [(2, .int 0), (0, .ref am), (1, .int us)]) hx hb dX7_layPairs_35 rfl hl (by decide) rfl (fun ls hl => ?_)
    obtain ⟨y36, hy36⟩ : ∃ y, y = L_X7_layPairs_36 mtc mmy mam mwa mww mmb us 4 0 y2.2 mgo := ⟨_, rfl⟩
    have hr : (y36.2.1, y36.2.2) = r := by rw [hy36]; exact hr
    have X36 : ∀ (H : Heap) (locs : List Loc), Wd D A s.heap H locs [(am, .inr (7, [.int mpl, .ref ama, .int msc, .int mtc, .ref amb, .ref amc, .ref amd, .int msr, .int mal, .int mns, .int mnn, .int mnt, .int mfi, .int mnw, .ref ame, .int mmy, .ref amf, .long mbe, .ref amg, .long mmf, .ref amp, .ref amo, .int mbs, .int mco, .long mh])), (ama, .inl (cI, 47, .inl mpg)), (amb, .inl (cI, 16, .inl mam)), (amc, .inl (cI, 4, .inl mwa)), (amd, .inl (cI, 4, .inl mww)), (ame, .inl (cI, 16, .inl mna)), (amf, .inl (cI, 4, .inl mmb)), (amg, .inl (cJ, 4, .inr (.inl msh))), (amp, .inl (cJ, 9, .inr (.inl y36.2.1))), (amo, .inl (cJ, 3, .inr (.inl y36.2.2)))] → ∀ (ls : Array Slot), lv_has ls 7 [(0, .ref am), (1, .int us), (2, .int y36.1)] → W p l e (rl 1) s m args below meth c H locs 0 0 Q (F0 m 204 ls []) := by
      intro H locs w ls hl
      subst hr hQ
      exact fr_vret C hret hlk w rfl dX7_layPairs_204
    have LP36 : ∀ (n36 : Nat) (k36 : Nat) (i7 : Int32) (w8 : Nat → Int64) (w9 : Nat → Int64), i7 = nI k36 → k36 ≤ 3 → 3 < k36 + n36 → L_X7_layPairs_36 mtc mmy mam mwa mww mmb us n36 i7 w8 w9 = y36 → ∀ (H : Heap) (locs : List Loc), Wd D A s.heap H locs [(am, .inr (7, [.int mpl, .ref ama, .int msc, .int mtc, .ref amb, .ref amc, .ref amd, .int msr, .int mal, .int mns, .int mnn, .int mnt, .int mfi, .int mnw, .ref ame, .int mmy, .ref amf, .long mbe, .ref amg, .long mmf, .ref amp, .ref amo, .int mbs, .int mco, .long mh])), (ama, .inl (cI, 47, .inl mpg)), (amb, .inl (cI, 16, .inl mam)), (amc, .inl (cI, 4, .inl mwa)), (amd, .inl (cI, 4, .inl mww)), (ame, .inl (cI, 16, .inl mna)), (amf, .inl (cI, 4, .inl mmb)), (amg, .inl (cJ, 4, .inr (.inl msh))), (amp, .inl (cJ, 9, .inr (.inl w8))), (amo, .inl (cJ, 3, .inr (.inl w9)))] → ∀ (ls : Array Slot), lv_has ls 7 [(0, .ref am), (1, .int us), (2, .int i7)] → W p l e (rl 1) s m args below meth c H locs 0 0 Q (F0 m 36 ls []) := by
      clear hr
      intro n36
      induction n36 with
      | zero => intro k36 i7 w8 w9 hk36 hkN36 hn36; exact absurd hn36 (by omega)
      | succ n36 ih36 =>
        intro k36 i7 w8 w9 hk36 hkN36 hn36 hr H locs w ls hl
        have hr : (if 3 ≤ i7 then (i7, w8, w9) else ((fun (y50 : Int32 × (Nat → Int64) × (Nat → Int64)) => L_X7_layPairs_36 mtc mmy mam mwa mww mmb us n36 (i7 + 1) y50.2.1 y50.2.2) (L_X7_layPairs_50 mtc mmy mam mwa mww mmb us i7 4 0 w8 (vp_updL w9 (Int32.toNatClampNeg i7) 0)))) = y36 := hr
        refine lv_iload_n hx hb dX7_layPairs_36 rfl (lv_at hl 2 rfl) ?_
        refine lv_iconst (v := 3) hx hb dX7_layPairs_37 (by decide) ?_
        refine lv_icmp_ge (tgt := 204) hx hb dX7_layPairs_38 (by decide) (fun c38_10 => ?_) (fun c38_10 => ?_)
        · have hr := (if_pos c38_10).symm.trans hr
          subst hr
          exact X36 H locs w ls (lv_sub hl [0, 1, 2] rfl)
        · have hr := (if_neg c38_10).symm.trans hr
          have hkl36 := kl_of hk36 hkN36 (N := 3) (by decide) (by omega) c38_10
          refine lv_aload_n hx hb dX7_layPairs_41 rfl (lv_at hl 0 rfl) ?_
          refine fr_get C w fg_X7_35 0 rfl rfl dX7_layPairs_42 ?_
          refine lv_iload_n hx hb dX7_layPairs_45 rfl (lv_at hl 2 rfl) ?_
          refine lv_lconst (v := 0) hx hb dX7_layPairs_46 (by decide) ?_
          refine fr_last C w 9 rfl (vi_ctr hk36 hkl36 (by omega) (by decide)) (ws' := [(am, .inr (7, [.int mpl, .ref ama, .int msc, .int mtc, .ref amb, .ref amc, .ref amd, .int msr, .int mal, .int mns, .int mnn, .int mnt, .int mfi, .int mnw, .ref ame, .int mmy, .ref amf, .long mbe, .ref amg, .long mmf, .ref amp, .ref amo, .int mbs, .int mco, .long mh])), (ama, .inl (cI, 47, .inl mpg)), (amb, .inl (cI, 16, .inl mam)), (amc, .inl (cI, 4, .inl mwa)), (amd, .inl (cI, 4, .inl mww)), (ame, .inl (cI, 16, .inl mna)), (amf, .inl (cI, 4, .inl mmb)), (amg, .inl (cJ, 4, .inr (.inl msh))), (amp, .inl (cJ, 9, .inr (.inl w8))), (amo, .inl (cJ, 3, .inr (.inl (vp_updL w9 (Int32.toNatClampNeg i7) 0))))]) rfl dX7_layPairs_47 (fun H locs w => ?_)
          refine lv_iconst (v := 0) hx hb dX7_layPairs_48 (by decide) ?_
          refine lv_istore_n (lv' := [(3, .int 0), (0, .ref am), (1, .int us), (2, .int i7)]) hx hb dX7_layPairs_49 rfl hl (by decide) rfl (fun ls hl => ?_)
          obtain ⟨y50, hy50⟩ : ∃ y, y = L_X7_layPairs_50 mtc mmy mam mwa mww mmb us i7 4 0 w8 (vp_updL w9 (Int32.toNatClampNeg i7) 0) := ⟨_, rfl⟩
          have hr : L_X7_layPairs_36 mtc mmy mam mwa mww mmb us n36 (i7 + 1) y50.2.1 y50.2.2 = y36 := by rw [hy50]; exact hr
          have X50 : ∀ (H : Heap) (locs : List Loc), Wd D A s.heap H locs [(am, .inr (7, [.int mpl, .ref ama, .int msc, .int mtc, .ref amb, .ref amc, .ref amd, .int msr, .int mal, .int mns, .int mnn, .int mnt, .int mfi, .int mnw, .ref ame, .int mmy, .ref amf, .long mbe, .ref amg, .long mmf, .ref amp, .ref amo, .int mbs, .int mco, .long mh])), (ama, .inl (cI, 47, .inl mpg)), (amb, .inl (cI, 16, .inl mam)), (amc, .inl (cI, 4, .inl mwa)), (amd, .inl (cI, 4, .inl mww)), (ame, .inl (cI, 16, .inl mna)), (amf, .inl (cI, 4, .inl mmb)), (amg, .inl (cJ, 4, .inr (.inl msh))), (amp, .inl (cJ, 9, .inr (.inl y50.2.1))), (amo, .inl (cJ, 3, .inr (.inl y50.2.2)))] → ∀ (ls : Array Slot), lv_has ls 7 [(0, .ref am), (1, .int us), (2, .int i7), (3, .int y50.1)] → W p l e (rl 1) s m args below meth c H locs 0 0 Q (F0 m 198 ls []) := by
            intro H locs w ls hl
            refine lv_iinc (v := i7 + 1) (lv' := [(2, .int (i7 + 1)), (0, .ref am), (1, .int us), (3, .int y50.1)]) hx hb dX7_layPairs_198 hl (k := 2) rfl rfl (by decide) rfl (fun ls hl => ?_)
            refine lv_goto (tgt := 36) hx hb dX7_layPairs_201 (by decide) ?_
            exact ih36 (k36 + 1) (i7 + 1) y50.2.1 y50.2.2 (by rw [hk36]; exact nI_1 k36) (by omega) (by omega) hr H locs w ls (lv_sub hl [1, 2, 0] rfl)
          have LP50 : ∀ (n50 : Nat) (k50 : Nat) (i11 : Int32) (w12 : Nat → Int64) (w13 : Nat → Int64), i11 = nI k50 → k50 ≤ 3 → 3 < k50 + n50 → L_X7_layPairs_50 mtc mmy mam mwa mww mmb us i7 n50 i11 w12 w13 = y50 → ∀ (H : Heap) (locs : List Loc), Wd D A s.heap H locs [(am, .inr (7, [.int mpl, .ref ama, .int msc, .int mtc, .ref amb, .ref amc, .ref amd, .int msr, .int mal, .int mns, .int mnn, .int mnt, .int mfi, .int mnw, .ref ame, .int mmy, .ref amf, .long mbe, .ref amg, .long mmf, .ref amp, .ref amo, .int mbs, .int mco, .long mh])), (ama, .inl (cI, 47, .inl mpg)), (amb, .inl (cI, 16, .inl mam)), (amc, .inl (cI, 4, .inl mwa)), (amd, .inl (cI, 4, .inl mww)), (ame, .inl (cI, 16, .inl mna)), (amf, .inl (cI, 4, .inl mmb)), (amg, .inl (cJ, 4, .inr (.inl msh))), (amp, .inl (cJ, 9, .inr (.inl w12))), (amo, .inl (cJ, 3, .inr (.inl w13)))] → ∀ (ls : Array Slot), lv_has ls 7 [(0, .ref am), (1, .int us), (2, .int i7), (3, .int i11)] → W p l e (rl 1) s m args below meth c H locs 0 0 Q (F0 m 50 ls []) := by
            clear hr
            intro n50
            induction n50 with
            | zero => intro k50 i11 w12 w13 hk50 hkN50 hn50; exact absurd hn50 (by omega)
            | succ n50 ih50 =>
              intro k50 i11 w12 w13 hk50 hkN50 hn50 hr H locs w ls hl
              have hr : (if 3 ≤ i11 then (i11, w12, w13) else (if mmy ≤ (i7 + 1) then (i11, w12, w13) else ((fun (y79 : Int32 × (Nat → Int64) × (Nat → Int64)) => L_X7_layPairs_50 mtc mmy mam mwa mww mmb us i7 n50 (i11 + 1) y79.2.1 y79.2.2) (L_X7_layPairs_79 mtc mmy mam mwa mww mmb us i7 i11 5 0 (vp_updL w12 (Int32.toNatClampNeg ((3 * i7) + i11)) 0) w13)))) = y50 := hr
              refine lv_iload_n hx hb dX7_layPairs_50 rfl (lv_at hl 3 rfl) ?_
              refine lv_iconst (v := 3) hx hb dX7_layPairs_51 (by decide) ?_
              refine lv_icmp_ge (tgt := 198) hx hb dX7_layPairs_52 (by decide) (fun c52_14 => ?_) (fun c52_14 => ?_)
              · have hr := (if_pos c52_14).symm.trans hr
                subst hr
                exact X50 H locs w ls (lv_sub hl [0, 1, 2, 3] rfl)
              · have hr := (if_neg c52_14).symm.trans hr
                have hkl50 := kl_of hk50 hkN50 (N := 3) (by decide) (by omega) c52_14
                refine lv_iload_n hx hb dX7_layPairs_55 rfl (lv_at hl 2 rfl) ?_
                refine lv_iconst (v := 1) hx hb dX7_layPairs_56 (by decide) ?_
                refine lv_iadd hx hb dX7_layPairs_57 ?_
                refine lv_aload_n hx hb dX7_layPairs_58 rfl (lv_at hl 0 rfl) ?_
                refine fr_get C w fg_X7_121 0 rfl rfl dX7_layPairs_59 ?_
                refine lv_icmp_ge (tgt := 198) hx hb dX7_layPairs_62 (by decide) (fun c62_15 => ?_) (fun c62_15 => ?_)
                · have hr := (if_pos c62_15).symm.trans hr
                  subst hr
                  exact X50 H locs w ls (lv_sub hl [0, 1, 2, 3] rfl)
                · have hr := (if_neg c62_15).symm.trans hr
                  refine lv_aload_n hx hb dX7_layPairs_65 rfl (lv_at hl 0 rfl) ?_
                  refine fr_get C w fg_X7_32 0 rfl rfl dX7_layPairs_66 ?_
                  refine lv_iconst (v := 3) hx hb dX7_layPairs_69 (by decide) ?_
                  refine lv_iload_n hx hb dX7_layPairs_70 rfl (lv_at hl 2 rfl) ?_
                  refine lv_imul hx hb dX7_layPairs_71 ?_
                  refine lv_iload_n hx hb dX7_layPairs_72 rfl (lv_at hl 3 rfl) ?_
                  refine lv_iadd hx hb dX7_layPairs_73 ?_
                  refine lv_lconst (v := 0) hx hb dX7_layPairs_74 (by decide) ?_
                  refine fr_last C w 8 rfl (vi_3 ⟨k36, hkl36, hk36⟩ ⟨k50, hkl50, hk50⟩) (ws' := [(am, .inr (7, [.int mpl, .ref ama, .int msc, .int mtc, .ref amb, .ref amc, .ref amd, .int msr, .int mal, .int mns, .int mnn, .int mnt, .int mfi, .int mnw, .ref ame, .int mmy, .ref amf, .long mbe, .ref amg, .long mmf, .ref amp, .ref amo, .int mbs, .int mco, .long mh])), (ama, .inl (cI, 47, .inl mpg)), (amb, .inl (cI, 16, .inl mam)), (amc, .inl (cI, 4, .inl mwa)), (amd, .inl (cI, 4, .inl mww)), (ame, .inl (cI, 16, .inl mna)), (amf, .inl (cI, 4, .inl mmb)), (amg, .inl (cJ, 4, .inr (.inl msh))), (amp, .inl (cJ, 9, .inr (.inl (vp_updL w12 (Int32.toNatClampNeg ((3 * i7) + i11)) 0)))), (amo, .inl (cJ, 3, .inr (.inl w13)))]) rfl dX7_layPairs_75 (fun H locs w => ?_)
                  refine lv_iconst (v := 0) hx hb dX7_layPairs_76 (by decide) ?_
                  refine lv_istore (lv' := [(4, .int 0), (0, .ref am), (1, .int us), (2, .int i7), (3, .int i11)]) hx hb dX7_layPairs_77 hl (by decide) rfl (fun ls hl => ?_)
                  obtain ⟨y79, hy79⟩ : ∃ y, y = L_X7_layPairs_79 mtc mmy mam mwa mww mmb us i7 i11 5 0 (vp_updL w12 (Int32.toNatClampNeg ((3 * i7) + i11)) 0) w13 := ⟨_, rfl⟩
                  have hr : L_X7_layPairs_50 mtc mmy mam mwa mww mmb us i7 n50 (i11 + 1) y79.2.1 y79.2.2 = y50 := by rw [hy79]; exact hr
                  have X79 : ∀ (H : Heap) (locs : List Loc), Wd D A s.heap H locs [(am, .inr (7, [.int mpl, .ref ama, .int msc, .int mtc, .ref amb, .ref amc, .ref amd, .int msr, .int mal, .int mns, .int mnn, .int mnt, .int mfi, .int mnw, .ref ame, .int mmy, .ref amf, .long mbe, .ref amg, .long mmf, .ref amp, .ref amo, .int mbs, .int mco, .long mh])), (ama, .inl (cI, 47, .inl mpg)), (amb, .inl (cI, 16, .inl mam)), (amc, .inl (cI, 4, .inl mwa)), (amd, .inl (cI, 4, .inl mww)), (ame, .inl (cI, 16, .inl mna)), (amf, .inl (cI, 4, .inl mmb)), (amg, .inl (cJ, 4, .inr (.inl msh))), (amp, .inl (cJ, 9, .inr (.inl y79.2.1))), (amo, .inl (cJ, 3, .inr (.inl y79.2.2)))] → ∀ (ls : Array Slot), lv_has ls 7 [(0, .ref am), (1, .int us), (2, .int i7), (3, .int i11), (4, .int y79.1)] → W p l e (rl 1) s m args below meth c H locs 0 0 Q (F0 m 192 ls []) := by
                    intro H locs w ls hl
                    refine lv_iinc (v := i11 + 1) (lv' := [(3, .int (i11 + 1)), (0, .ref am), (1, .int us), (2, .int i7), (4, .int y79.1)]) hx hb dX7_layPairs_192 hl (k := 3) rfl rfl (by decide) rfl (fun ls hl => ?_)
                    refine lv_goto (tgt := 50) hx hb dX7_layPairs_195 (by decide) ?_
                    exact ih50 (k50 + 1) (i11 + 1) y79.2.1 y79.2.2 (by rw [hk50]; exact nI_1 k50) (by omega) (by omega) hr H locs w ls (lv_sub hl [1, 2, 3, 0] rfl)
                  have LP79 : ∀ (n79 : Nat) (k79 : Nat) (i16 : Int32) (w17 : Nat → Int64) (w18 : Nat → Int64), i16 = nI k79 → k79 ≤ nmt → nmt < k79 + n79 → L_X7_layPairs_79 mtc mmy mam mwa mww mmb us i7 i11 n79 i16 w17 w18 = y79 → ∀ (H : Heap) (locs : List Loc), Wd D A s.heap H locs [(am, .inr (7, [.int mpl, .ref ama, .int msc, .int mtc, .ref amb, .ref amc, .ref amd, .int msr, .int mal, .int mns, .int mnn, .int mnt, .int mfi, .int mnw, .ref ame, .int mmy, .ref amf, .long mbe, .ref amg, .long mmf, .ref amp, .ref amo, .int mbs, .int mco, .long mh])), (ama, .inl (cI, 47, .inl mpg)), (amb, .inl (cI, 16, .inl mam)), (amc, .inl (cI, 4, .inl mwa)), (amd, .inl (cI, 4, .inl mww)), (ame, .inl (cI, 16, .inl mna)), (amf, .inl (cI, 4, .inl mmb)), (amg, .inl (cJ, 4, .inr (.inl msh))), (amp, .inl (cJ, 9, .inr (.inl w17))), (amo, .inl (cJ, 3, .inr (.inl w18)))] → ∀ (ls : Array Slot), lv_has ls 7 [(0, .ref am), (1, .int us), (2, .int i7), (3, .int i11), (4, .int i16)] → W p l e (rl 1) s m args below meth c H locs 0 0 Q (F0 m 79 ls []) := by
                    clear hr
                    intro n79
                    induction n79 with
                    | zero => intro k79 i16 w17 w18 hk79 hkN79 hn79; exact absurd hn79 (by omega)
                    | succ n79 ih79 =>
                      intro k79 i16 w17 w18 hk79 hkN79 hn79 hr H locs w ls hl
                      have hr : (if mtc ≤ i16 then (i16, w17, w18) else ((fun (v21 : Int64) => ((fun (v23 : Int64) => ((fun (v25 : Int64) => L_X7_layPairs_79 mtc mmy mam mwa mww mmb us i7 i11 n79 (i16 + 1) (vp_updL w17 (Int32.toNatClampNeg ((3 * i7) + i11)) ((w17 (Int32.toNatClampNeg ((3 * i7) + i11))) + v23)) (vp_updL w18 (Int32.toNatClampNeg i7) ((w18 (Int32.toNatClampNeg i7)) + v25))) (if i11 = 0 then v21 * (f_X7_short0 mam mwa mmb i16) else 0))) (if mmy ≤ (i11 + 1) then 0 else v21 * (f_X7_apart mam mmb (i11 + 1) i16)))) (if (f_X7_hasBit us i16) = 0 then 0 else (Int32.toInt64 (mww (Int32.toNatClampNeg i16))) * (f_X7_apart mam mmb (i7 + 1) i16)))) = y79 := hr
                      refine lv_iload hx hb dX7_layPairs_79 (lv_at hl 4 rfl) ?_
                      refine lv_aload_n hx hb dX7_layPairs_81 rfl (lv_at hl 0 rfl) ?_
                      refine fr_get C w fg_X7_81 0 rfl rfl dX7_layPairs_82 ?_
                      refine lv_icmp_ge (tgt := 192) hx hb dX7_layPairs_85 (by decide) (fun c85_19 => ?_) (fun c85_19 => ?_)
                      · have hr := (if_pos c85_19).symm.trans hr
                        subst hr
                        exact X79 H locs w ls (lv_sub hl [0, 1, 2, 3, 4] rfl)
                      · have hr := (if_neg c85_19).symm.trans hr
                        have hkl79 := kl_of hk79 hkN79 (N := nmt) hmt2 (by omega) c85_19
                        refine lv_iload_n hx hb dX7_layPairs_88 rfl (lv_at hl 1 rfl) ?_
                        refine lv_iload hx hb dX7_layPairs_89 (lv_at hl 4 rfl) ?_
                        refine fr_callIS (As := [.int us, .int i16]) (rest := []) C w kf_X7_hasBit mw_16_23 (c_X7_hasBit l D cI cJ us i16) ⟨Nat.le_of_ble_eq_true rfl, Nat.le_of_ble_eq_true rfl⟩ ⟨Nat.le_refl 0, Nat.le_refl 0⟩ [] rfl rfl rfl (ws' := [(am, .inr (7, [.int mpl, .ref ama, .int msc, .int mtc, .ref amb, .ref amc, .ref amd, .int msr, .int mal, .int mns, .int mnn, .int mnt, .int mfi, .int mnw, .ref ame, .int mmy, .ref amf, .long mbe, .ref amg, .long mmf, .ref amp, .ref amo, .int mbs, .int mco, .long mh])), (ama, .inl (cI, 47, .inl mpg)), (amb, .inl (cI, 16, .inl mam)), (amc, .inl (cI, 4, .inl mwa)), (amd, .inl (cI, 4, .inl mww)), (ame, .inl (cI, 16, .inl mna)), (amf, .inl (cI, 4, .inl mmb)), (amg, .inl (cJ, 4, .inr (.inl msh))), (amp, .inl (cJ, 9, .inr (.inl w17))), (amo, .inl (cJ, 3, .inr (.inl w18)))]) rfl rfl hl.1 rfl (Nat.le_of_ble_eq_true rfl) dX7_layPairs_91 (fun H locs w => ?_)
                        have J119_28 : ∀ (v21 : Int64), v21 = (if (f_X7_hasBit us i16) = 0 then 0 else (Int32.toInt64 (mww (Int32.toNatClampNeg i16))) * (f_X7_apart mam mmb (i7 + 1) i16)) → ∀ (H : Heap) (locs : List Loc), Wd D A s.heap H locs [(am, .inr (7, [.int mpl, .ref ama, .int msc, .int mtc, .ref amb, .ref amc, .ref amd, .int msr, .int mal, .int mns, .int mnn, .int mnt, .int mfi, .int mnw, .ref ame, .int mmy, .ref amf, .long mbe, .ref amg, .long mmf, .ref amp, .ref amo, .int mbs, .int mco, .long mh])), (ama, .inl (cI, 47, .inl mpg)), (amb, .inl (cI, 16, .inl mam)), (amc, .inl (cI, 4, .inl mwa)), (amd, .inl (cI, 4, .inl mww)), (ame, .inl (cI, 16, .inl mna)), (amf, .inl (cI, 4, .inl mmb)), (amg, .inl (cJ, 4, .inr (.inl msh))), (amp, .inl (cJ, 9, .inr (.inl w17))), (amo, .inl (cJ, 3, .inr (.inl w18)))] → W p l e (rl 1) s m args below meth c H locs 0 0 Q (F0 m 119 ls [.long v21]) := by
                          intro v21 ev21 H locs w
                          have hr : ((fun (v23 : Int64) => ((fun (v25 : Int64) => L_X7_layPairs_79 mtc mmy mam mwa mww mmb us i7 i11 n79 (i16 + 1) (vp_updL w17 (Int32.toNatClampNeg ((3 * i7) + i11)) ((w17 (Int32.toNatClampNeg ((3 * i7) + i11))) + v23)) (vp_updL w18 (Int32.toNatClampNeg i7) ((w18 (Int32.toNatClampNeg i7)) + v25))) (if i11 = 0 then v21 * (f_X7_short0 mam mwa mmb i16) else 0))) (if mmy ≤ (i11 + 1) then 0 else v21 * (f_X7_apart mam mmb (i11 + 1) i16))) = y79 := by subst ev21; exact hr
                          refine lv_lstore (lv' := [(5, .long v21), (0, .ref am), (1, .int us), (2, .int i7), (3, .int i11), (4, .int i16)]) hx hb dX7_layPairs_119 hl (by decide) rfl (fun ls hl => ?_)
                          refine lv_aload_n hx hb dX7_layPairs_121 rfl (lv_at hl 1 rfl) ?_
                          refine fr_get C w fg_X7_32 0 rfl rfl dX7_layPairs_122 ?_
                          refine lv_iconst (v := 3) hx hb dX7_layPairs_125 (by decide) ?_
                          refine lv_iload_n hx hb dX7_layPairs_126 rfl (lv_at hl 3 rfl) ?_
                          refine lv_imul hx hb dX7_layPairs_127 ?_
                          refine lv_iload_n hx hb dX7_layPairs_128 rfl (lv_at hl 4 rfl) ?_
                          refine lv_iadd hx hb dX7_layPairs_129 ?_
                          refine lv_dup2_11 hx hb dX7_layPairs_130 rfl rfl ?_
                          refine fr_lald C w 8 rfl (vi_3 ⟨k36, hkl36, hk36⟩ ⟨k50, hkl50, hk50⟩) dX7_layPairs_131 ?_
                          refine lv_iload_n hx hb dX7_layPairs_132 rfl (lv_at hl 4 rfl) ?_
                          refine lv_iconst (v := 1) hx hb dX7_layPairs_133 (by decide) ?_
                          refine lv_iadd hx hb dX7_layPairs_134 ?_
                          refine lv_aload_n hx hb dX7_layPairs_135 rfl (lv_at hl 1 rfl) ?_
                          refine fr_get C w fg_X7_121 0 rfl rfl dX7_layPairs_136 ?_
                          have J158_27 : ∀ (v23 : Int64), v23 = (if mmy ≤ (i11 + 1) then 0 else v21 * (f_X7_apart mam mmb (i11 + 1) i16)) → ∀ (H : Heap) (locs : List Loc), Wd D A s.heap H locs [(am, .inr (7, [.int mpl, .ref ama, .int msc, .int mtc, .ref amb, .ref amc, .ref amd, .int msr, .int mal, .int mns, .int mnn, .int mnt, .int mfi, .int mnw, .ref ame, .int mmy, .ref amf, .long mbe, .ref amg, .long mmf, .ref amp, .ref amo, .int mbs, .int mco, .long mh])), (ama, .inl (cI, 47, .inl mpg)), (amb, .inl (cI, 16, .inl mam)), (amc, .inl (cI, 4, .inl mwa)), (amd, .inl (cI, 4, .inl mww)), (ame, .inl (cI, 16, .inl mna)), (amf, .inl (cI, 4, .inl mmb)), (amg, .inl (cJ, 4, .inr (.inl msh))), (amp, .inl (cJ, 9, .inr (.inl w17))), (amo, .inl (cJ, 3, .inr (.inl w18)))] → W p l e (rl 1) s m args below meth c H locs 0 0 Q (F0 m 158 ls [.long v23, .long (w17 (Int32.toNatClampNeg ((3 * i7) + i11))), .int ((3 * i7) + i11), .ref amp]) := by
                            intro v23 ev23 H locs w
                            have hr : ((fun (v25 : Int64) => L_X7_layPairs_79 mtc mmy mam mwa mww mmb us i7 i11 n79 (i16 + 1) (vp_updL w17 (Int32.toNatClampNeg ((3 * i7) + i11)) ((w17 (Int32.toNatClampNeg ((3 * i7) + i11))) + v23)) (vp_updL w18 (Int32.toNatClampNeg i7) ((w18 (Int32.toNatClampNeg i7)) + v25))) (if i11 = 0 then v21 * (f_X7_short0 mam mwa mmb i16) else 0)) = y79 := by subst ev23; exact hr
                            refine lv_ladd hx hb dX7_layPairs_158 ?_
                            refine fr_last C w 8 rfl (vi_3 ⟨k36, hkl36, hk36⟩ ⟨k50, hkl50, hk50⟩) (ws' := [(am, .inr (7, [.int mpl, .ref ama, .int msc, .int mtc, .ref amb, .ref amc, .ref amd, .int msr, .int mal, .int mns, .int mnn, .int mnt, .int mfi, .int mnw, .ref ame, .int mmy, .ref amf, .long mbe, .ref amg, .long mmf, .ref amp, .ref amo, .int mbs, .int mco, .long mh])), (ama, .inl (cI, 47, .inl mpg)), (amb, .inl (cI, 16, .inl mam)), (amc, .inl (cI, 4, .inl mwa)), (amd, .inl (cI, 4, .inl mww)), (ame, .inl (cI, 16, .inl mna)), (amf, .inl (cI, 4, .inl mmb)), (amg, .inl (cJ, 4, .inr (.inl msh))), (amp, .inl (cJ, 9, .inr (.inl (vp_updL w17 (Int32.toNatClampNeg ((3 * i7) + i11)) ((w17 (Int32.toNatClampNeg ((3 * i7) + i11))) + v23))))), (amo, .inl (cJ, 3, .inr (.inl w18)))]) rfl dX7_layPairs_159 (fun H locs w => ?_)
                            refine lv_aload_n hx hb dX7_layPairs_160 rfl (lv_at hl 1 rfl) ?_
                            refine fr_get C w fg_X7_35 0 rfl rfl dX7_layPairs_161 ?_
                            refine lv_iload_n hx hb dX7_layPairs_164 rfl (lv_at hl 3 rfl) ?_
                            refine lv_dup2_11 hx hb dX7_layPairs_165 rfl rfl ?_
                            refine fr_lald C w 9 rfl (vi_ctr hk36 hkl36 (by omega) (by decide)) dX7_layPairs_166 ?_
                            refine lv_iload_n hx hb dX7_layPairs_167 rfl (lv_at hl 4 rfl) ?_
                            have J184_26 : ∀ (v25 : Int64), v25 = (if i11 = 0 then v21 * (f_X7_short0 mam mwa mmb i16) else 0) → ∀ (H : Heap) (locs : List Loc), Wd D A s.heap H locs [(am, .inr (7, [.int mpl, .ref ama, .int msc, .int mtc, .ref amb, .ref amc, .ref amd, .int msr, .int mal, .int mns, .int mnn, .int mnt, .int mfi, .int mnw, .ref ame, .int mmy, .ref amf, .long mbe, .ref amg, .long mmf, .ref amp, .ref amo, .int mbs, .int mco, .long mh])), (ama, .inl (cI, 47, .inl mpg)), (amb, .inl (cI, 16, .inl mam)), (amc, .inl (cI, 4, .inl mwa)), (amd, .inl (cI, 4, .inl mww)), (ame, .inl (cI, 16, .inl mna)), (amf, .inl (cI, 4, .inl mmb)), (amg, .inl (cJ, 4, .inr (.inl msh))), (amp, .inl (cJ, 9, .inr (.inl (vp_updL w17 (Int32.toNatClampNeg ((3 * i7) + i11)) ((w17 (Int32.toNatClampNeg ((3 * i7) + i11))) + v23))))), (amo, .inl (cJ, 3, .inr (.inl w18)))] → W p l e (rl 1) s m args below meth c H locs 0 0 Q (F0 m 184 ls [.long v25, .long (w18 (Int32.toNatClampNeg i7)), .int i7, .ref amo]) := by
                              intro v25 ev25 H locs w
                              have hr : L_X7_layPairs_79 mtc mmy mam mwa mww mmb us i7 i11 n79 (i16 + 1) (vp_updL w17 (Int32.toNatClampNeg ((3 * i7) + i11)) ((w17 (Int32.toNatClampNeg ((3 * i7) + i11))) + v23)) (vp_updL w18 (Int32.toNatClampNeg i7) ((w18 (Int32.toNatClampNeg i7)) + v25)) = y79 := by subst ev25; exact hr
                              refine lv_ladd hx hb dX7_layPairs_184 ?_
                              refine fr_last C w 9 rfl (vi_ctr hk36 hkl36 (by omega) (by decide)) (ws' := [(am, .inr (7, [.int mpl, .ref ama, .int msc, .int mtc, .ref amb, .ref amc, .ref amd, .int msr, .int mal, .int mns, .int mnn, .int mnt, .int mfi, .int mnw, .ref ame, .int mmy, .ref amf, .long mbe, .ref amg, .long mmf, .ref amp, .ref amo, .int mbs, .int mco, .long mh])), (ama, .inl (cI, 47, .inl mpg)), (amb, .inl (cI, 16, .inl mam)), (amc, .inl (cI, 4, .inl mwa)), (amd, .inl (cI, 4, .inl mww)), (ame, .inl (cI, 16, .inl mna)), (amf, .inl (cI, 4, .inl mmb)), (amg, .inl (cJ, 4, .inr (.inl msh))), (amp, .inl (cJ, 9, .inr (.inl (vp_updL w17 (Int32.toNatClampNeg ((3 * i7) + i11)) ((w17 (Int32.toNatClampNeg ((3 * i7) + i11))) + v23))))), (amo, .inl (cJ, 3, .inr (.inl (vp_updL w18 (Int32.toNatClampNeg i7) ((w18 (Int32.toNatClampNeg i7)) + v25)))))]) rfl dX7_layPairs_185 (fun H locs w => ?_)
                              refine lv_iinc (v := i16 + 1) (lv' := [(4, .int (i16 + 1)), (5, .long v21), (0, .ref am), (1, .int us), (2, .int i7), (3, .int i11)]) hx hb dX7_layPairs_186 hl (k := 5) rfl rfl (by decide) rfl (fun ls hl => ?_)
                              refine lv_goto (tgt := 79) hx hb dX7_layPairs_189 (by decide) ?_
                              exact ih79 (k79 + 1) (i16 + 1) (vp_updL w17 (Int32.toNatClampNeg ((3 * i7) + i11)) ((w17 (Int32.toNatClampNeg ((3 * i7) + i11))) + v23)) (vp_updL w18 (Int32.toNatClampNeg i7) ((w18 (Int32.toNatClampNeg i7)) + v25)) (by rw [hk79]; exact nI_1 k79) (by omega) (by omega) hr H locs w ls (lv_sub hl [2, 3, 4, 5, 0] rfl)
                            refine lv_if_ne (tgt := 183) hx hb dX7_layPairs_168 (by decide) (fun c168_24 => ?_) (fun c168_24 => ?_)
                            · refine lv_lconst (v := 0) hx hb dX7_layPairs_183 (by decide) ?_
                              exact J184_26 0 (by rw [if_neg c168_24]) _ _ w
                            · refine lv_lload hx hb dX7_layPairs_171 (lv_at hl 0 rfl) ?_
                              refine lv_aload_n hx hb dX7_layPairs_173 rfl (lv_at hl 1 rfl) ?_
                              refine lv_iload hx hb dX7_layPairs_174 (lv_at hl 5 rfl) ?_
                              refine fr_callLV (As := [.int i16]) (rest := [.long v21, .long (w18 (Int32.toNatClampNeg i7)), .int i7, .ref amo]) C w kf_X7_short0 mw_23_12 (c_X7_short0 l D cI cJ am ama amb amc amd ame amf amg amp amo mpl msc mtc msr mal mns mnn mnt mfi mnw mmy mbe mmf mbs mco mh mpg mam mwa mww mna mmb msh (vp_updL w17 (Int32.toNatClampNeg ((3 * i7) + i11)) ((w17 (Int32.toNatClampNeg ((3 * i7) + i11))) + v23)) w18 i16 hmb ⟨k79, by omega, hk79⟩) ⟨Nat.le_of_ble_eq_true rfl, Nat.le_of_ble_eq_true rfl⟩ ⟨Nat.le_refl 0, Nat.le_refl 0⟩ [0, 1, 2, 3, 4, 5, 6, 7, 8, 9] rfl rfl rfl (ws' := [(am, .inr (7, [.int mpl, .ref ama, .int msc, .int mtc, .ref amb, .ref amc, .ref amd, .int msr, .int mal, .int mns, .int mnn, .int mnt, .int mfi, .int mnw, .ref ame, .int mmy, .ref amf, .long mbe, .ref amg, .long mmf, .ref amp, .ref amo, .int mbs, .int mco, .long mh])), (ama, .inl (cI, 47, .inl mpg)), (amb, .inl (cI, 16, .inl mam)), (amc, .inl (cI, 4, .inl mwa)), (amd, .inl (cI, 4, .inl mww)), (ame, .inl (cI, 16, .inl mna)), (amf, .inl (cI, 4, .inl mmb)), (amg, .inl (cJ, 4, .inr (.inl msh))), (amp, .inl (cJ, 9, .inr (.inl (vp_updL w17 (Int32.toNatClampNeg ((3 * i7) + i11)) ((w17 (Int32.toNatClampNeg ((3 * i7) + i11))) + v23))))), (amo, .inl (cJ, 3, .inr (.inl w18)))]) rfl rfl rfl rfl hl.1 rfl (Nat.le_of_ble_eq_true rfl) dX7_layPairs_176 (fun H locs w => ?_)
                              refine lv_lmul hx hb dX7_layPairs_179 ?_
                              refine lv_goto (tgt := 184) hx hb dX7_layPairs_180 (by decide) ?_
                              exact J184_26 (v21 * (f_X7_short0 mam mwa mmb i16)) (by rw [if_pos c168_24]) _ _ w
                          refine lv_icmp_ge (tgt := 157) hx hb dX7_layPairs_139 (by decide) (fun c139_22 => ?_) (fun c139_22 => ?_)
                          · refine lv_lconst (v := 0) hx hb dX7_layPairs_157 (by decide) ?_
                            exact J158_27 0 (by rw [if_pos c139_22]) _ _ w
                          · refine lv_lload hx hb dX7_layPairs_142 (lv_at hl 0 rfl) ?_
                            refine lv_aload_n hx hb dX7_layPairs_144 rfl (lv_at hl 1 rfl) ?_
                            refine lv_iload_n hx hb dX7_layPairs_145 rfl (lv_at hl 4 rfl) ?_
                            refine lv_iconst (v := 1) hx hb dX7_layPairs_146 (by decide) ?_
                            refine lv_iadd hx hb dX7_layPairs_147 ?_
                            refine lv_iload hx hb dX7_layPairs_148 (lv_at hl 5 rfl) ?_
                            refine fr_callLV (As := [.int (i11 + 1), .int i16]) (rest := [.long v21, .long (w17 (Int32.toNatClampNeg ((3 * i7) + i11))), .int ((3 * i7) + i11), .ref amp]) C w kf_X7_apart mw_23_8 (c_X7_apart l D cI cJ am ama amb amc amd ame amf amg amp amo mpl msc mtc msr mal mns mnn mnt mfi mnw mmy mbe mmf mbs mco mh mpg mam mwa mww mna mmb msh w17 w18 (i11 + 1) i16 hmb ⟨k50 + 1, by omega, by rw [hk50]; exact nI_1 k50⟩ ⟨k79, by omega, hk79⟩) ⟨Nat.le_of_ble_eq_true rfl, Nat.le_of_ble_eq_true rfl⟩ ⟨Nat.le_refl 0, Nat.le_refl 0⟩ [0, 1, 2, 3, 4, 5, 6, 7, 8, 9] rfl rfl rfl (ws' := [(am, .inr (7, [.int mpl, .ref ama, .int msc, .int mtc, .ref amb, .ref amc, .ref amd, .int msr, .int mal, .int mns, .int mnn, .int mnt, .int mfi, .int mnw, .ref ame, .int mmy, .ref amf, .long mbe, .ref amg, .long mmf, .ref amp, .ref amo, .int mbs, .int mco, .long mh])), (ama, .inl (cI, 47, .inl mpg)), (amb, .inl (cI, 16, .inl mam)), (amc, .inl (cI, 4, .inl mwa)), (amd, .inl (cI, 4, .inl mww)), (ame, .inl (cI, 16, .inl mna)), (amf, .inl (cI, 4, .inl mmb)), (amg, .inl (cJ, 4, .inr (.inl msh))), (amp, .inl (cJ, 9, .inr (.inl w17))), (amo, .inl (cJ, 3, .inr (.inl w18)))]) rfl rfl rfl rfl hl.1 rfl (Nat.le_of_ble_eq_true rfl) dX7_layPairs_150 (fun H locs w => ?_)
                            refine lv_lmul hx hb dX7_layPairs_153 ?_
                            refine lv_goto (tgt := 158) hx hb dX7_layPairs_154 (by decide) ?_
                            exact J158_27 (v21 * (f_X7_apart mam mmb (i11 + 1) i16)) (by rw [if_neg c139_22]) _ _ w
                        refine lv_if_eq (tgt := 118) hx hb dX7_layPairs_94 (by decide) (fun c94_20 => ?_) (fun c94_20 => ?_)
                        · refine lv_lconst (v := 0) hx hb dX7_layPairs_118 (by decide) ?_
                          exact J119_28 0 (by rw [if_pos c94_20]) _ _ w
                        · refine lv_aload_n hx hb dX7_layPairs_97 rfl (lv_at hl 0 rfl) ?_
                          refine fr_get C w fg_X7_19 0 rfl rfl dX7_layPairs_98 ?_
                          refine lv_iload hx hb dX7_layPairs_101 (lv_at hl 4 rfl) ?_
                          refine fr_iald C w 4 rfl (vi_ctr hk79 hkl79 (by omega) (by decide)) dX7_layPairs_103 ?_
                          refine lv_i2l (v := (Int32.toInt64 (mww (Int32.toNatClampNeg i16)))) hx hb dX7_layPairs_104 rfl ?_
                          refine lv_aload_n hx hb dX7_layPairs_105 rfl (lv_at hl 0 rfl) ?_
                          refine lv_iload_n hx hb dX7_layPairs_106 rfl (lv_at hl 2 rfl) ?_
                          refine lv_iconst (v := 1) hx hb dX7_layPairs_107 (by decide) ?_
                          refine lv_iadd hx hb dX7_layPairs_108 ?_
                          refine lv_iload hx hb dX7_layPairs_109 (lv_at hl 4 rfl) ?_
                          refine fr_callLV (As := [.int (i7 + 1), .int i16]) (rest := [.long (Int32.toInt64 (mww (Int32.toNatClampNeg i16)))]) C w kf_X7_apart mw_23_8 (c_X7_apart l D cI cJ am ama amb amc amd ame amf amg amp amo mpl msc mtc msr mal mns mnn mnt mfi mnw mmy mbe mmf mbs mco mh mpg mam mwa mww mna mmb msh w17 w18 (i7 + 1) i16 hmb ⟨k36 + 1, by omega, by rw [hk36]; exact nI_1 k36⟩ ⟨k79, by omega, hk79⟩) ⟨Nat.le_of_ble_eq_true rfl, Nat.le_of_ble_eq_true rfl⟩ ⟨Nat.le_refl 0, Nat.le_refl 0⟩ [0, 1, 2, 3, 4, 5, 6, 7, 8, 9] rfl rfl rfl (ws' := [(am, .inr (7, [.int mpl, .ref ama, .int msc, .int mtc, .ref amb, .ref amc, .ref amd, .int msr, .int mal, .int mns, .int mnn, .int mnt, .int mfi, .int mnw, .ref ame, .int mmy, .ref amf, .long mbe, .ref amg, .long mmf, .ref amp, .ref amo, .int mbs, .int mco, .long mh])), (ama, .inl (cI, 47, .inl mpg)), (amb, .inl (cI, 16, .inl mam)), (amc, .inl (cI, 4, .inl mwa)), (amd, .inl (cI, 4, .inl mww)), (ame, .inl (cI, 16, .inl mna)), (amf, .inl (cI, 4, .inl mmb)), (amg, .inl (cJ, 4, .inr (.inl msh))), (amp, .inl (cJ, 9, .inr (.inl w17))), (amo, .inl (cJ, 3, .inr (.inl w18)))]) rfl rfl rfl rfl hl.1 rfl (Nat.le_of_ble_eq_true rfl) dX7_layPairs_111 (fun H locs w => ?_)
                          refine lv_lmul hx hb dX7_layPairs_114 ?_
                          refine lv_goto (tgt := 119) hx hb dX7_layPairs_115 (by decide) ?_
                          exact J119_28 ((Int32.toInt64 (mww (Int32.toNatClampNeg i16))) * (f_X7_apart mam mmb (i7 + 1) i16)) (by rw [if_neg c94_20]) _ _ w
                  exact LP79 5 0 0 (vp_updL w12 (Int32.toNatClampNeg ((3 * i7) + i11)) 0) w13 (by decide) (by omega) (by omega) hy79.symm H locs w ls (lv_sub hl [1, 2, 3, 4, 0] rfl)
          exact LP50 4 0 0 w8 (vp_updL w9 (Int32.toNatClampNeg i7) 0) (by decide) (by omega) (by omega) hy50.symm H locs w ls (lv_sub hl [1, 2, 3, 0] rfl)
    exact LP36 4 0 0 y2.2 mgo (by decide) (by omega) (by omega) hy36.symm H locs w ls (lv_sub hl [1, 2, 0] rfl)
  have LP2 : ∀ (n2 : Nat) (k2 : Nat) (i1 : Int32) (w2 : Nat → Int64), i1 = nI k2 → k2 ≤ 9 → 9 < k2 + n2 → L_X7_layPairs_2 n2 i1 w2 = y2 → ∀ (H : Heap) (locs : List Loc), Wd D A s.heap H locs [(am, .inr (7, [.int mpl, .ref ama, .int msc, .int mtc, .ref amb, .ref amc, .ref amd, .int msr, .int mal, .int mns, .int mnn, .int mnt, .int mfi, .int mnw, .ref ame, .int mmy, .ref amf, .long mbe, .ref amg, .long mmf, .ref amp, .ref amo, .int mbs, .int mco, .long mh])), (ama, .inl (cI, 47, .inl mpg)), (amb, .inl (cI, 16, .inl mam)), (amc, .inl (cI, 4, .inl mwa)), (amd, .inl (cI, 4, .inl mww)), (ame, .inl (cI, 16, .inl mna)), (amf, .inl (cI, 4, .inl mmb)), (amg, .inl (cJ, 4, .inr (.inl msh))), (amp, .inl (cJ, 9, .inr (.inl w2))), (amo, .inl (cJ, 3, .inr (.inl mgo)))] → ∀ (ls : Array Slot), lv_has ls 7 [(0, .ref am), (1, .int us), (2, .int i1)] → W p l e (rl 1) s m args below meth c H locs 0 0 Q (F0 m 2 ls []) := by
    clear hr
    intro n2
    induction n2 with
    | zero => intro k2 i1 w2 hk2 hkN2 hn2; exact absurd hn2 (by omega)
    | succ n2 ih2 =>
      intro k2 i1 w2 hk2 hkN2 hn2 hr H locs w ls hl
      have hr : (if 9 ≤ i1 then (i1, w2) else ((fun (v5 : Int64) => L_X7_layPairs_2  n2 (i1 + 1) (vp_updL w2 (Int32.toNatClampNeg i1) v5)) (if (i1 / 3) = (i1 - i1 / 3 * 3) then 1 else 0))) = y2 := hr
      refine lv_iload_n hx hb dX7_layPairs_2 rfl (lv_at hl 2 rfl) ?_
      refine lv_bipush (v := 9) hx hb dX7_layPairs_3 (by decide) ?_
      refine lv_icmp_ge (tgt := 34) hx hb dX7_layPairs_5 (by decide) (fun c5_3 => ?_) (fun c5_3 => ?_)
      · have hr := (if_pos c5_3).symm.trans hr
        subst hr
        exact X2 H locs w ls (lv_sub hl [0, 1, 2] rfl)
      · have hr := (if_neg c5_3).symm.trans hr
        have hkl2 := kl_of hk2 hkN2 (N := 9) (by decide) (by omega) c5_3
        refine lv_aload_n hx hb dX7_layPairs_8 rfl (lv_at hl 0 rfl) ?_
        refine fr_get C w fg_X7_32 0 rfl rfl dX7_layPairs_9 ?_
        refine lv_iload_n hx hb dX7_layPairs_12 rfl (lv_at hl 2 rfl) ?_
        refine lv_iload_n hx hb dX7_layPairs_13 rfl (lv_at hl 2 rfl) ?_
        refine lv_iconst (v := 3) hx hb dX7_layPairs_14 (by decide) ?_
        refine lv_idiv hx hb dX7_layPairs_15 (by decide) ?_
        refine lv_iload_n hx hb dX7_layPairs_16 rfl (lv_at hl 2 rfl) ?_
        refine lv_iconst (v := 3) hx hb dX7_layPairs_17 (by decide) ?_
        refine lv_irem hx hb dX7_layPairs_18 (by decide) ?_
        have J27_6 : ∀ (v5 : Int64), v5 = (if (i1 / 3) = (i1 - i1 / 3 * 3) then 1 else 0) → W p l e (rl 1) s m args below meth c H locs 0 0 Q (F0 m 27 ls [.long v5, .int i1, .ref amp]) := by
          intro v5 ev5
          have hr : L_X7_layPairs_2  n2 (i1 + 1) (vp_updL w2 (Int32.toNatClampNeg i1) v5) = y2 := by subst ev5; exact hr
          refine fr_last C w 8 rfl (vi_ctr hk2 hkl2 (by omega) (by decide)) (ws' := [(am, .inr (7, [.int mpl, .ref ama, .int msc, .int mtc, .ref amb, .ref amc, .ref amd, .int msr, .int mal, .int mns, .int mnn, .int mnt, .int mfi, .int mnw, .ref ame, .int mmy, .ref amf, .long mbe, .ref amg, .long mmf, .ref amp, .ref amo, .int mbs, .int mco, .long mh])), (ama, .inl (cI, 47, .inl mpg)), (amb, .inl (cI, 16, .inl mam)), (amc, .inl (cI, 4, .inl mwa)), (amd, .inl (cI, 4, .inl mww)), (ame, .inl (cI, 16, .inl mna)), (amf, .inl (cI, 4, .inl mmb)), (amg, .inl (cJ, 4, .inr (.inl msh))), (amp, .inl (cJ, 9, .inr (.inl (vp_updL w2 (Int32.toNatClampNeg i1) v5)))), (amo, .inl (cJ, 3, .inr (.inl mgo)))]) rfl dX7_layPairs_27 (fun H locs w => ?_)
          refine lv_iinc (v := i1 + 1) (lv' := [(2, .int (i1 + 1)), (0, .ref am), (1, .int us)]) hx hb dX7_layPairs_28 hl (k := 2) rfl rfl (by decide) rfl (fun ls hl => ?_)
          refine lv_goto (tgt := 2) hx hb dX7_layPairs_31 (by decide) ?_
          exact ih2 (k2 + 1) (i1 + 1) (vp_updL w2 (Int32.toNatClampNeg i1) v5) (by rw [hk2]; exact nI_1 k2) (by omega) (by omega) hr H locs w ls (lv_sub hl [1, 2, 0] rfl)
        refine lv_icmp_ne (tgt := 26) hx hb dX7_layPairs_19 (by decide) (fun c19_4 => ?_) (fun c19_4 => ?_)
        · refine lv_lconst (v := 0) hx hb dX7_layPairs_26 (by decide) ?_
          exact J27_6 0 (by rw [if_neg c19_4])
        · refine lv_lconst (v := 1) hx hb dX7_layPairs_22 (by decide) ?_
          refine lv_goto (tgt := 27) hx hb dX7_layPairs_23 (by decide) ?_
          exact J27_6 1 (by rw [if_pos c19_4])
  exact LP2 10 0 0 mpa (by decide) (by omega) (by omega) hy2.symm H locs w ls (lv_sub hl [1, 2, 0] rfl)
def f_X7_cell (mpa : Nat → Int64) (mgo : Nat → Int64) (q1 : Int32) (q2 : Int32) (q3 : Int32) : Int64 := (if q2 = q3 then mgo (Int32.toNatClampNeg q1) else mpa (Int32.toNatClampNeg ((3 * q1) + q2)))
set_option maxRecDepth 100000 in
set_option maxHeartbeats 4000000 in
theorem c_X7_cell (l : Launch) (D : va_G) (cI cJ : ClassId) (am ama amb amc amd ame amf amg amp amo : Nat) (mpl : Int32) (msc : Int32) (mtc : Int32) (msr : Int32) (mal : Int32) (mns : Int32) (mnn : Int32) (mnt : Int32) (mfi : Int32) (mnw : Int32) (mmy : Int32) (mbe : Int64) (mmf : Int64) (mbs : Int32) (mco : Int32) (mh : Int64) (mpg : Nat → Int32) (mam : Nat → Int32) (mwa : Nat → Int32) (mww : Nat → Int32) (mna : Nat → Int32) (mmb : Nat → Int32) (msh : Nat → Int64) (mpa : Nat → Int64) (mgo : Nat → Int64) (q1 : Int32) (q2 : Int32) (q3 : Int32) (hq1 : L3 q1) (hq2 : L3 q2) : CL l yX7_cell cX7_cell 4 0 D cI cJ [.ref am, .int q1, .int q2, .int q3] [(am, .inr (7, [.int mpl, .ref ama, .int msc, .int mtc, .ref amb, .ref amc, .ref amd, .int msr, .int mal, .int mns, .int mnn, .int mnt, .int mfi, .int mnw, .ref ame, .int mmy, .ref amf, .long mbe, .ref amg, .long mmf, .ref amp, .ref amo, .int mbs, .int mco, .long mh])), (ama, .inl (cI, 47, .inl mpg)), (amb, .inl (cI, 16, .inl mam)), (amc, .inl (cI, 4, .inl mwa)), (amd, .inl (cI, 4, .inl mww)), (ame, .inl (cI, 16, .inl mna)), (amf, .inl (cI, 4, .inl mmb)), (amg, .inl (cJ, 4, .inr (.inl msh))), (amp, .inl (cJ, 9, .inr (.inl mpa))), (amo, .inl (cJ, 3, .inr (.inl mgo)))] [(am, .inr (7, [.int mpl, .ref ama, .int msc, .int mtc, .ref amb, .ref amc, .ref amd, .int msr, .int mal, .int mns, .int mnn, .int mnt, .int mfi, .int mnw, .ref ame, .int mmy, .ref amf, .long mbe, .ref amg, .long mmf, .ref amp, .ref amo, .int mbs, .int mco, .long mh])), (ama, .inl (cI, 47, .inl mpg)), (amb, .inl (cI, 16, .inl mam)), (amc, .inl (cI, 4, .inl mwa)), (amd, .inl (cI, 4, .inl mww)), (ame, .inl (cI, 16, .inl mna)), (amf, .inl (cI, 4, .inl mmb)), (amg, .inl (cJ, 4, .inr (.inl msh))), (amp, .inl (cJ, 9, .inr (.inl mpa))), (amo, .inl (cJ, 3, .inr (.inl mgo)))] (f_X7_cell mpa mgo q1 q2 q3) := by
  generalize hr : f_X7_cell mpa mgo q1 q2 q3 = r
  refine fr_entryL (by decide) rfl ?_
  intro p e s m args below meth c A Q H locs hQ C hret hlk w ls hl
  have hx := C.1
  have hb := C.2.1
  have hl : lv_has ls 4 [(0, .ref am), (1, .int q1), (2, .int q2), (3, .int q3)] := hl
  have hr : (if q2 = q3 then mgo (Int32.toNatClampNeg q1) else mpa (Int32.toNatClampNeg ((3 * q1) + q2))) = r := hr
  refine lv_iload_n hx hb dX7_cell_0 rfl (lv_at hl 2 rfl) ?_
  refine lv_iload_n hx hb dX7_cell_1 rfl (lv_at hl 3 rfl) ?_
  refine lv_icmp_ne (tgt := 14) hx hb dX7_cell_2 (by decide) (fun c2_1 => ?_) (fun c2_1 => ?_)
  · have hr := (if_neg c2_1).symm.trans hr
    refine lv_aload_n hx hb dX7_cell_14 rfl (lv_at hl 0 rfl) ?_
    refine fr_get C w fg_X7_32 0 rfl rfl dX7_cell_15 ?_
    refine lv_iconst (v := 3) hx hb dX7_cell_18 (by decide) ?_
    refine lv_iload_n hx hb dX7_cell_19 rfl (lv_at hl 1 rfl) ?_
    refine lv_imul hx hb dX7_cell_20 ?_
    refine lv_iload_n hx hb dX7_cell_21 rfl (lv_at hl 2 rfl) ?_
    refine lv_iadd hx hb dX7_cell_22 ?_
    refine fr_lald C w 8 rfl (vi_3 hq1 hq2) dX7_cell_23 ?_
    subst hr hQ
    exact fr_lret C hret hlk w rfl rfl dX7_cell_24
  · have hr := (if_pos c2_1).symm.trans hr
    refine lv_aload_n hx hb dX7_cell_5 rfl (lv_at hl 0 rfl) ?_
    refine fr_get C w fg_X7_35 0 rfl rfl dX7_cell_6 ?_
    refine lv_iload_n hx hb dX7_cell_9 rfl (lv_at hl 1 rfl) ?_
    refine fr_lald C w 9 rfl hq1.vi dX7_cell_10 ?_
    refine lv_goto (tgt := 24) hx hb dX7_cell_11 (by decide) ?_
    subst hr hQ
    exact fr_lret C hret hlk w rfl rfl dX7_cell_24
def L_X7_determinant_5 (mpa : Nat → Int64) (mgo : Nat → Int64) (q1 : Int32) : Nat → Int64 → Int32 → Int64 × Int32
  | 0, _, _ => (0, 0)
  | n5 + 1, i1, i2 => (if 3 ≤ i2 then (i1, i2) else L_X7_determinant_5 mpa mgo q1 n5 (i1 + ((f_X7_cell mpa mgo 0 i2 q1) * (((f_X7_cell mpa mgo 1 ((i2 + 1) - (i2 + 1) / 3 * 3) q1) * (f_X7_cell mpa mgo 2 ((i2 + 2) - (i2 + 2) / 3 * 3) q1)) - ((f_X7_cell mpa mgo 1 ((i2 + 2) - (i2 + 2) / 3 * 3) q1) * (f_X7_cell mpa mgo 2 ((i2 + 1) - (i2 + 1) / 3 * 3) q1))))) (i2 + 1))
def f_X7_determinant (mpa : Nat → Int64) (mgo : Nat → Int64) (q1 : Int32) : Int64 := ((fun (y5 : Int64 × Int32) => y5.1) (L_X7_determinant_5 mpa mgo q1 4 0 0))
set_option maxRecDepth 100000 in
set_option maxHeartbeats 4000000 in
theorem c_X7_determinant (l : Launch) (D : va_G) (cI cJ : ClassId) (am ama amb amc amd ame amf amg amp amo : Nat) (mpl : Int32) (msc : Int32) (mtc : Int32) (msr : Int32) (mal : Int32) (mns : Int32) (mnn : Int32) (mnt : Int32) (mfi : Int32) (mnw : Int32) (mmy : Int32) (mbe : Int64) (mmf : Int64) (mbs : Int32) (mco : Int32) (mh : Int64) (mpg : Nat → Int32) (mam : Nat → Int32) (mwa : Nat → Int32) (mww : Nat → Int32) (mna : Nat → Int32) (mmb : Nat → Int32) (msh : Nat → Int64) (mpa : Nat → Int64) (mgo : Nat → Int64) (q1 : Int32) : CL l yX7_determinant cX7_determinant 7 1 D cI cJ [.ref am, .int q1] [(am, .inr (7, [.int mpl, .ref ama, .int msc, .int mtc, .ref amb, .ref amc, .ref amd, .int msr, .int mal, .int mns, .int mnn, .int mnt, .int mfi, .int mnw, .ref ame, .int mmy, .ref amf, .long mbe, .ref amg, .long mmf, .ref amp, .ref amo, .int mbs, .int mco, .long mh])), (ama, .inl (cI, 47, .inl mpg)), (amb, .inl (cI, 16, .inl mam)), (amc, .inl (cI, 4, .inl mwa)), (amd, .inl (cI, 4, .inl mww)), (ame, .inl (cI, 16, .inl mna)), (amf, .inl (cI, 4, .inl mmb)), (amg, .inl (cJ, 4, .inr (.inl msh))), (amp, .inl (cJ, 9, .inr (.inl mpa))), (amo, .inl (cJ, 3, .inr (.inl mgo)))] [(am, .inr (7, [.int mpl, .ref ama, .int msc, .int mtc, .ref amb, .ref amc, .ref amd, .int msr, .int mal, .int mns, .int mnn, .int mnt, .int mfi, .int mnw, .ref ame, .int mmy, .ref amf, .long mbe, .ref amg, .long mmf, .ref amp, .ref amo, .int mbs, .int mco, .long mh])), (ama, .inl (cI, 47, .inl mpg)), (amb, .inl (cI, 16, .inl mam)), (amc, .inl (cI, 4, .inl mwa)), (amd, .inl (cI, 4, .inl mww)), (ame, .inl (cI, 16, .inl mna)), (amf, .inl (cI, 4, .inl mmb)), (amg, .inl (cJ, 4, .inr (.inl msh))), (amp, .inl (cJ, 9, .inr (.inl mpa))), (amo, .inl (cJ, 3, .inr (.inl mgo)))] (f_X7_determinant mpa mgo q1) := by
  generalize hr : f_X7_determinant mpa mgo q1 = r
  refine fr_entryL (by decide) rfl ?_
  intro p e s m args below meth c A Q H locs hQ C hret hlk w ls hl
  have hx := C.1
  have hb := C.2.1
  have hl : lv_has ls 7 [(0, .ref am), (1, .int q1)] := hl
  have hr : ((fun (y5 : Int64 × Int32) => y5.1) (L_X7_determinant_5 mpa mgo q1 4 0 0)) = r := hr
  refine lv_lconst (v := 0) hx hb dX7_determinant_0 (by decide) ?_
  refine lv_lstore_n (lv' := [(2, .long 0), (0, .ref am), (1, .int q1)]) hx hb dX7_determinant_1 rfl hl (by decide) rfl (fun ls hl => ?_)
  refine lv_iconst (v := 0) hx hb dX7_determinant_2 (by decide) ?_
  refine lv_istore (lv' := [(4, .int 0), (2, .long 0), (0, .ref am), (1, .int q1)]) hx hb dX7_determinant_3 hl (by decide) rfl (fun ls hl => ?_)
  obtain ⟨y5, hy5⟩ : ∃ y, y = L_X7_determinant_5 mpa mgo q1 4 0 0 := ⟨_, rfl⟩
  have hr : y5.1 = r := by rw [hy5]; exact hr
  have X5 : ∀ (H : Heap) (locs : List Loc), Wd D A s.heap H locs [(am, .inr (7, [.int mpl, .ref ama, .int msc, .int mtc, .ref amb, .ref amc, .ref amd, .int msr, .int mal, .int mns, .int mnn, .int mnt, .int mfi, .int mnw, .ref ame, .int mmy, .ref amf, .long mbe, .ref amg, .long mmf, .ref amp, .ref amo, .int mbs, .int mco, .long mh])), (ama, .inl (cI, 47, .inl mpg)), (amb, .inl (cI, 16, .inl mam)), (amc, .inl (cI, 4, .inl mwa)), (amd, .inl (cI, 4, .inl mww)), (ame, .inl (cI, 16, .inl mna)), (amf, .inl (cI, 4, .inl mmb)), (amg, .inl (cJ, 4, .inr (.inl msh))), (amp, .inl (cJ, 9, .inr (.inl mpa))), (amo, .inl (cJ, 3, .inr (.inl mgo)))] → ∀ (ls : Array Slot), lv_has ls 7 [(0, .ref am), (1, .int q1), (2, .long y5.1), (4, .int y5.2)] → W p l e (rl 1) s m args below meth c H locs 0 0 Q (F0 m 80 ls []) := by
    intro H locs w ls hl
    refine lv_lload_n hx hb dX7_determinant_80 rfl (lv_at hl 2 rfl) ?_
    subst hr hQ
    exact fr_lret C hret hlk w rfl rfl dX7_determinant_81
  have LP5 : ∀ (n5 : Nat) (k5 : Nat) (i1 : Int64) (i2 : Int32), i2 = nI k5 → k5 ≤ 3 → 3 < k5 + n5 → L_X7_determinant_5 mpa mgo q1 n5 i1 i2 = y5 → ∀ (H : Heap) (locs : List Loc), Wd D A s.heap H locs [(am, .inr (7, [.int mpl, .ref ama, .int msc, .int mtc, .ref amb, .ref amc, .ref amd, .int msr, .int mal, .int mns, .int mnn, .int mnt, .int mfi, .int mnw, .ref ame, .int mmy, .ref amf, .long mbe, .ref amg, .long mmf, .ref amp, .ref amo, .int mbs, .int mco, .long mh])), (ama, .inl (cI, 47, .inl mpg)), (amb, .inl (cI, 16, .inl mam)), (amc, .inl (cI, 4, .inl mwa)), (amd, .inl (cI, 4, .inl mww)), (ame, .inl (cI, 16, .inl mna)), (amf, .inl (cI, 4, .inl mmb)), (amg, .inl (cJ, 4, .inr (.inl msh))), (amp, .inl (cJ, 9, .inr (.inl mpa))), (amo, .inl (cJ, 3, .inr (.inl mgo)))] → ∀ (ls : Array Slot), lv_has ls 7 [(0, .ref am), (1, .int q1), (2, .long i1), (4, .int i2)] → W p l e (rl 1) s m args below meth c H locs 0 0 Q (F0 m 5 ls []) := by
    clear hr
    intro n5
    induction n5 with
    | zero => intro k5 i1 i2 hk5 hkN5 hn5; exact absurd hn5 (by omega)
    | succ n5 ih5 =>
      intro k5 i1 i2 hk5 hkN5 hn5 hr H locs w ls hl
      have hr : (if 3 ≤ i2 then (i1, i2) else L_X7_determinant_5 mpa mgo q1 n5 (i1 + ((f_X7_cell mpa mgo 0 i2 q1) * (((f_X7_cell mpa mgo 1 ((i2 + 1) - (i2 + 1) / 3 * 3) q1) * (f_X7_cell mpa mgo 2 ((i2 + 2) - (i2 + 2) / 3 * 3) q1)) - ((f_X7_cell mpa mgo 1 ((i2 + 2) - (i2 + 2) / 3 * 3) q1) * (f_X7_cell mpa mgo 2 ((i2 + 1) - (i2 + 1) / 3 * 3) q1))))) (i2 + 1)) = y5 := hr
      refine lv_iload hx hb dX7_determinant_5 (lv_at hl 3 rfl) ?_
      refine lv_iconst (v := 3) hx hb dX7_determinant_7 (by decide) ?_
      refine lv_icmp_ge (tgt := 80) hx hb dX7_determinant_8 (by decide) (fun c8_3 => ?_) (fun c8_3 => ?_)
      · have hr := (if_pos c8_3).symm.trans hr
        subst hr
        exact X5 H locs w ls (lv_sub hl [0, 1, 2, 3] rfl)
      · have hr := (if_neg c8_3).symm.trans hr
        have hkl5 := kl_of hk5 hkN5 (N := 3) (by decide) (by omega) c8_3
        refine lv_iload hx hb dX7_determinant_11 (lv_at hl 3 rfl) ?_
        refine lv_iconst (v := 1) hx hb dX7_determinant_13 (by decide) ?_
        refine lv_iadd hx hb dX7_determinant_14 ?_
        refine lv_iconst (v := 3) hx hb dX7_determinant_15 (by decide) ?_
        refine lv_irem hx hb dX7_determinant_16 (by decide) ?_
        refine lv_istore (lv' := [(5, .int ((i2 + 1) - (i2 + 1) / 3 * 3)), (0, .ref am), (1, .int q1), (2, .long i1), (4, .int i2)]) hx hb dX7_determinant_17 hl (by decide) rfl (fun ls hl => ?_)
        refine lv_iload hx hb dX7_determinant_19 (lv_at hl 4 rfl) ?_
        refine lv_iconst (v := 2) hx hb dX7_determinant_21 (by decide) ?_
        refine lv_iadd hx hb dX7_determinant_22 ?_
        refine lv_iconst (v := 3) hx hb dX7_determinant_23 (by decide) ?_
        refine lv_irem hx hb dX7_determinant_24 (by decide) ?_
        refine lv_istore (lv' := [(6, .int ((i2 + 2) - (i2 + 2) / 3 * 3)), (5, .int ((i2 + 1) - (i2 + 1) / 3 * 3)), (0, .ref am), (1, .int q1), (2, .long i1), (4, .int i2)]) hx hb dX7_determinant_25 hl (by decide) rfl (fun ls hl => ?_)
        refine lv_lload_n hx hb dX7_determinant_27 rfl (lv_at hl 4 rfl) ?_
        refine lv_aload_n hx hb dX7_determinant_28 rfl (lv_at hl 2 rfl) ?_
        refine lv_iconst (v := 0) hx hb dX7_determinant_29 (by decide) ?_
        refine lv_iload hx hb dX7_determinant_30 (lv_at hl 5 rfl) ?_
        refine lv_iload_n hx hb dX7_determinant_32 rfl (lv_at hl 3 rfl) ?_
        refine fr_callLV (As := [.int 0, .int i2, .int q1]) (rest := [.long i1]) C w kf_X7_cell mw_23_20 (c_X7_cell l D cI cJ am ama amb amc amd ame amf amg amp amo mpl msc mtc msr mal mns mnn mnt mfi mnw mmy mbe mmf mbs mco mh mpg mam mwa mww mna mmb msh mpa mgo 0 i2 q1 L3_0 ⟨k5, hkl5, hk5⟩) ⟨Nat.le_of_ble_eq_true rfl, Nat.le_of_ble_eq_true rfl⟩ ⟨Nat.le_refl 0, Nat.le_refl 0⟩ [0, 1, 2, 3, 4, 5, 6, 7, 8, 9] rfl rfl rfl (ws' := [(am, .inr (7, [.int mpl, .ref ama, .int msc, .int mtc, .ref amb, .ref amc, .ref amd, .int msr, .int mal, .int mns, .int mnn, .int mnt, .int mfi, .int mnw, .ref ame, .int mmy, .ref amf, .long mbe, .ref amg, .long mmf, .ref amp, .ref amo, .int mbs, .int mco, .long mh])), (ama, .inl (cI, 47, .inl mpg)), (amb, .inl (cI, 16, .inl mam)), (amc, .inl (cI, 4, .inl mwa)), (amd, .inl (cI, 4, .inl mww)), (ame, .inl (cI, 16, .inl mna)), (amf, .inl (cI, 4, .inl mmb)), (amg, .inl (cJ, 4, .inr (.inl msh))), (amp, .inl (cJ, 9, .inr (.inl mpa))), (amo, .inl (cJ, 3, .inr (.inl mgo)))]) rfl rfl rfl rfl hl.1 rfl (Nat.le_of_ble_eq_true rfl) dX7_determinant_33 (fun H locs w => ?_)
        refine lv_aload_n hx hb dX7_determinant_36 rfl (lv_at hl 2 rfl) ?_
        refine lv_iconst (v := 1) hx hb dX7_determinant_37 (by decide) ?_
        refine lv_iload hx hb dX7_determinant_38 (lv_at hl 1 rfl) ?_
        refine lv_iload_n hx hb dX7_determinant_40 rfl (lv_at hl 3 rfl) ?_
        refine fr_callLV (As := [.int 1, .int ((i2 + 1) - (i2 + 1) / 3 * 3), .int q1]) (rest := [.long (f_X7_cell mpa mgo 0 i2 q1), .long i1]) C w kf_X7_cell mw_23_20 (c_X7_cell l D cI cJ am ama amb amc amd ame amf amg amp amo mpl msc mtc msr mal mns mnn mnt mfi mnw mmy mbe mmf mbs mco mh mpg mam mwa mww mna mmb msh mpa mgo 1 ((i2 + 1) - (i2 + 1) / 3 * 3) q1 L3_1 (rem3a hk5 hkl5)) ⟨Nat.le_of_ble_eq_true rfl, Nat.le_of_ble_eq_true rfl⟩ ⟨Nat.le_refl 0, Nat.le_refl 0⟩ [0, 1, 2, 3, 4, 5, 6, 7, 8, 9] rfl rfl rfl (ws' := [(am, .inr (7, [.int mpl, .ref ama, .int msc, .int mtc, .ref amb, .ref amc, .ref amd, .int msr, .int mal, .int mns, .int mnn, .int mnt, .int mfi, .int mnw, .ref ame, .int mmy, .ref amf, .long mbe, .ref amg, .long mmf, .ref amp, .ref amo, .int mbs, .int mco, .long mh])), (ama, .inl (cI, 47, .inl mpg)), (amb, .inl (cI, 16, .inl mam)), (amc, .inl (cI, 4, .inl mwa)), (amd, .inl (cI, 4, .inl mww)), (ame, .inl (cI, 16, .inl mna)), (amf, .inl (cI, 4, .inl mmb)), (amg, .inl (cJ, 4, .inr (.inl msh))), (amp, .inl (cJ, 9, .inr (.inl mpa))), (amo, .inl (cJ, 3, .inr (.inl mgo)))]) rfl rfl rfl rfl hl.1 rfl (Nat.le_of_ble_eq_true rfl) dX7_determinant_41 (fun H locs w => ?_)
        refine lv_aload_n hx hb dX7_determinant_44 rfl (lv_at hl 2 rfl) ?_
        refine lv_iconst (v := 2) hx hb dX7_determinant_45 (by decide) ?_
        refine lv_iload hx hb dX7_determinant_46 (lv_at hl 0 rfl) ?_
        refine lv_iload_n hx hb dX7_determinant_48 rfl (lv_at hl 3 rfl) ?_
        refine fr_callLV (As := [.int 2, .int ((i2 + 2) - (i2 + 2) / 3 * 3), .int q1]) (rest := [.long (f_X7_cell mpa mgo 1 ((i2 + 1) - (i2 + 1) / 3 * 3) q1), .long (f_X7_cell mpa mgo 0 i2 q1), .long i1]) C w kf_X7_cell mw_23_20 (c_X7_cell l D cI cJ am ama amb amc amd ame amf amg amp amo mpl msc mtc msr mal mns mnn mnt mfi mnw mmy mbe mmf mbs mco mh mpg mam mwa mww mna mmb msh mpa mgo 2 ((i2 + 2) - (i2 + 2) / 3 * 3) q1 L3_2 (rem3b hk5 hkl5)) ⟨Nat.le_of_ble_eq_true rfl, Nat.le_of_ble_eq_true rfl⟩ ⟨Nat.le_refl 0, Nat.le_refl 0⟩ [0, 1, 2, 3, 4, 5, 6, 7, 8, 9] rfl rfl rfl (ws' := [(am, .inr (7, [.int mpl, .ref ama, .int msc, .int mtc, .ref amb, .ref amc, .ref amd, .int msr, .int mal, .int mns, .int mnn, .int mnt, .int mfi, .int mnw, .ref ame, .int mmy, .ref amf, .long mbe, .ref amg, .long mmf, .ref amp, .ref amo, .int mbs, .int mco, .long mh])), (ama, .inl (cI, 47, .inl mpg)), (amb, .inl (cI, 16, .inl mam)), (amc, .inl (cI, 4, .inl mwa)), (amd, .inl (cI, 4, .inl mww)), (ame, .inl (cI, 16, .inl mna)), (amf, .inl (cI, 4, .inl mmb)), (amg, .inl (cJ, 4, .inr (.inl msh))), (amp, .inl (cJ, 9, .inr (.inl mpa))), (amo, .inl (cJ, 3, .inr (.inl mgo)))]) rfl rfl rfl rfl hl.1 rfl (Nat.le_of_ble_eq_true rfl) dX7_determinant_49 (fun H locs w => ?_)
        refine lv_lmul hx hb dX7_determinant_52 ?_
        refine lv_aload_n hx hb dX7_determinant_53 rfl (lv_at hl 2 rfl) ?_
        refine lv_iconst (v := 1) hx hb dX7_determinant_54 (by decide) ?_
        refine lv_iload hx hb dX7_determinant_55 (lv_at hl 0 rfl) ?_
        refine lv_iload_n hx hb dX7_determinant_57 rfl (lv_at hl 3 rfl) ?_
        refine fr_callLV (As := [.int 1, .int ((i2 + 2) - (i2 + 2) / 3 * 3), .int q1]) (rest := [.long ((f_X7_cell mpa mgo 1 ((i2 + 1) - (i2 + 1) / 3 * 3) q1) * (f_X7_cell mpa mgo 2 ((i2 + 2) - (i2 + 2) / 3 * 3) q1)), .long (f_X7_cell mpa mgo 0 i2 q1), .long i1]) C w kf_X7_cell mw_23_20 (c_X7_cell l D cI cJ am ama amb amc amd ame amf amg amp amo mpl msc mtc msr mal mns mnn mnt mfi mnw mmy mbe mmf mbs mco mh mpg mam mwa mww mna mmb msh mpa mgo 1 ((i2 + 2) - (i2 + 2) / 3 * 3) q1 L3_1 (rem3b hk5 hkl5)) ⟨Nat.le_of_ble_eq_true rfl, Nat.le_of_ble_eq_true rfl⟩ ⟨Nat.le_refl 0, Nat.le_refl 0⟩ [0, 1, 2, 3, 4, 5, 6, 7, 8, 9] rfl rfl rfl (ws' := [(am, .inr (7, [.int mpl, .ref ama, .int msc, .int mtc, .ref amb, .ref amc, .ref amd, .int msr, .int mal, .int mns, .int mnn, .int mnt, .int mfi, .int mnw, .ref ame, .int mmy, .ref amf, .long mbe, .ref amg, .long mmf, .ref amp, .ref amo, .int mbs, .int mco, .long mh])), (ama, .inl (cI, 47, .inl mpg)), (amb, .inl (cI, 16, .inl mam)), (amc, .inl (cI, 4, .inl mwa)), (amd, .inl (cI, 4, .inl mww)), (ame, .inl (cI, 16, .inl mna)), (amf, .inl (cI, 4, .inl mmb)), (amg, .inl (cJ, 4, .inr (.inl msh))), (amp, .inl (cJ, 9, .inr (.inl mpa))), (amo, .inl (cJ, 3, .inr (.inl mgo)))]) rfl rfl rfl rfl hl.1 rfl (Nat.le_of_ble_eq_true rfl) dX7_determinant_58 (fun H locs w => ?_)
        refine lv_aload_n hx hb dX7_determinant_61 rfl (lv_at hl 2 rfl) ?_
        refine lv_iconst (v := 2) hx hb dX7_determinant_62 (by decide) ?_
        refine lv_iload hx hb dX7_determinant_63 (lv_at hl 1 rfl) ?_
        refine lv_iload_n hx hb dX7_determinant_65 rfl (lv_at hl 3 rfl) ?_
        refine fr_callLV (As := [.int 2, .int ((i2 + 1) - (i2 + 1) / 3 * 3), .int q1]) (rest := [.long (f_X7_cell mpa mgo 1 ((i2 + 2) - (i2 + 2) / 3 * 3) q1), .long ((f_X7_cell mpa mgo 1 ((i2 + 1) - (i2 + 1) / 3 * 3) q1) * (f_X7_cell mpa mgo 2 ((i2 + 2) - (i2 + 2) / 3 * 3) q1)), .long (f_X7_cell mpa mgo 0 i2 q1), .long i1]) C w kf_X7_cell mw_23_20 (c_X7_cell l D cI cJ am ama amb amc amd ame amf amg amp amo mpl msc mtc msr mal mns mnn mnt mfi mnw mmy mbe mmf mbs mco mh mpg mam mwa mww mna mmb msh mpa mgo 2 ((i2 + 1) - (i2 + 1) / 3 * 3) q1 L3_2 (rem3a hk5 hkl5)) ⟨Nat.le_of_ble_eq_true rfl, Nat.le_of_ble_eq_true rfl⟩ ⟨Nat.le_refl 0, Nat.le_refl 0⟩ [0, 1, 2, 3, 4, 5, 6, 7, 8, 9] rfl rfl rfl (ws' := [(am, .inr (7, [.int mpl, .ref ama, .int msc, .int mtc, .ref amb, .ref amc, .ref amd, .int msr, .int mal, .int mns, .int mnn, .int mnt, .int mfi, .int mnw, .ref ame, .int mmy, .ref amf, .long mbe, .ref amg, .long mmf, .ref amp, .ref amo, .int mbs, .int mco, .long mh])), (ama, .inl (cI, 47, .inl mpg)), (amb, .inl (cI, 16, .inl mam)), (amc, .inl (cI, 4, .inl mwa)), (amd, .inl (cI, 4, .inl mww)), (ame, .inl (cI, 16, .inl mna)), (amf, .inl (cI, 4, .inl mmb)), (amg, .inl (cJ, 4, .inr (.inl msh))), (amp, .inl (cJ, 9, .inr (.inl mpa))), (amo, .inl (cJ, 3, .inr (.inl mgo)))]) rfl rfl rfl rfl hl.1 rfl (Nat.le_of_ble_eq_true rfl) dX7_determinant_66 (fun H locs w => ?_)
        refine lv_lmul hx hb dX7_determinant_69 ?_
        refine lv_lsub hx hb dX7_determinant_70 ?_
        refine lv_lmul hx hb dX7_determinant_71 ?_
        refine lv_ladd hx hb dX7_determinant_72 ?_
        refine lv_lstore_n (lv' := [(2, .long (i1 + ((f_X7_cell mpa mgo 0 i2 q1) * (((f_X7_cell mpa mgo 1 ((i2 + 1) - (i2 + 1) / 3 * 3) q1) * (f_X7_cell mpa mgo 2 ((i2 + 2) - (i2 + 2) / 3 * 3) q1)) - ((f_X7_cell mpa mgo 1 ((i2 + 2) - (i2 + 2) / 3 * 3) q1) * (f_X7_cell mpa mgo 2 ((i2 + 1) - (i2 + 1) / 3 * 3) q1)))))), (6, .int ((i2 + 2) - (i2 + 2) / 3 * 3)), (5, .int ((i2 + 1) - (i2 + 1) / 3 * 3)), (0, .ref am), (1, .int q1), (4, .int i2)]) hx hb dX7_determinant_73 rfl hl (by decide) rfl (fun ls hl => ?_)
        refine lv_iinc (v := i2 + 1) (lv' := [(4, .int (i2 + 1)), (2, .long (i1 + ((f_X7_cell mpa mgo 0 i2 q1) * (((f_X7_cell mpa mgo 1 ((i2 + 1) - (i2 + 1) / 3 * 3) q1) * (f_X7_cell mpa mgo 2 ((i2 + 2) - (i2 + 2) / 3 * 3) q1)) - ((f_X7_cell mpa mgo 1 ((i2 + 2) - (i2 + 2) / 3 * 3) q1) * (f_X7_cell mpa mgo 2 ((i2 + 1) - (i2 + 1) / 3 * 3) q1)))))), (6, .int ((i2 + 2) - (i2 + 2) / 3 * 3)), (5, .int ((i2 + 1) - (i2 + 1) / 3 * 3)), (0, .ref am), (1, .int q1)]) hx hb dX7_determinant_74 hl (k := 5) rfl rfl (by decide) rfl (fun ls hl => ?_)
        refine lv_goto (tgt := 5) hx hb dX7_determinant_77 (by decide) ?_
        exact ih5 (k5 + 1) (i1 + ((f_X7_cell mpa mgo 0 i2 q1) * (((f_X7_cell mpa mgo 1 ((i2 + 1) - (i2 + 1) / 3 * 3) q1) * (f_X7_cell mpa mgo 2 ((i2 + 2) - (i2 + 2) / 3 * 3) q1)) - ((f_X7_cell mpa mgo 1 ((i2 + 2) - (i2 + 2) / 3 * 3) q1) * (f_X7_cell mpa mgo 2 ((i2 + 1) - (i2 + 1) / 3 * 3) q1))))) (i2 + 1) (by rw [hk5]; exact nI_1 k5) (by omega) (by omega) hr H locs w ls (lv_sub hl [4, 5, 1, 0] rfl)
  exact LP5 4 0 0 0 (by decide) (by omega) (by omega) hy5.symm H locs w ls (lv_sub hl [2, 3, 1, 0] rfl)
